section
-- ===== PART A: goes FIRST, ahead of the names: the tables' words, and 'selects' of the private methods out of them =====
/-- a private method of a class that the tables say can be made, by its rows of tables_1 -/
def lw_okq (q : MethodName × Nat) : Prop := (q.1.cls ≠ "java/lang/invoke/MethodHandle" ∧ q.1.cls ≠ "java/lang/invoke/VarHandle") ∧ Cond.instantiable q.1.cls q.2 ∈ tables_1 ∧ Cond.privateMethod q.1 ∈ tables_1 ∧ Cond.instanceMethod q.1 ∈ tables_1
theorem lw_p0 : lw_okq (⟨"TrueLitres", "isMeter", "(I)Z"⟩, 9) := ⟨⟨by decide +kernel, by decide +kernel⟩, List.mem_of_getElem? (i := 11) (by decide +kernel), List.mem_of_getElem? (i := 151) (by decide +kernel), List.mem_of_getElem? (i := 152) (by decide +kernel)⟩
theorem lw_p1 : lw_okq (⟨"TrueLitres", "isShut", "(I)Z"⟩, 9) := ⟨⟨by decide +kernel, by decide +kernel⟩, List.mem_of_getElem? (i := 11) (by decide +kernel), List.mem_of_getElem? (i := 261) (by decide +kernel), List.mem_of_getElem? (i := 262) (by decide +kernel)⟩
theorem lw_p2 : lw_okq (⟨"TrueLitres", "keep", "(LTrueLitres$Ticket;)V"⟩, 9) := ⟨⟨by decide +kernel, by decide +kernel⟩, List.mem_of_getElem? (i := 11) (by decide +kernel), List.mem_of_getElem? (i := 303) (by decide +kernel), List.mem_of_getElem? (i := 304) (by decide +kernel)⟩
theorem lw_p3 : lw_okq (⟨"TrueLitres", "isTicket", "(I)Z"⟩, 9) := ⟨⟨by decide +kernel, by decide +kernel⟩, List.mem_of_getElem? (i := 11) (by decide +kernel), List.mem_of_getElem? (i := 311) (by decide +kernel), List.mem_of_getElem? (i := 312) (by decide +kernel)⟩
theorem lw_p4 : lw_okq (⟨"TrueLitres", "replace", "(III)V"⟩, 9) := ⟨⟨by decide +kernel, by decide +kernel⟩, List.mem_of_getElem? (i := 11) (by decide +kernel), List.mem_of_getElem? (i := 319) (by decide +kernel), List.mem_of_getElem? (i := 320) (by decide +kernel)⟩
theorem lw_p5 : lw_okq (⟨"TrueLitres", "factorNow", "(LTrueLitres$Ticket;)I"⟩, 9) := ⟨⟨by decide +kernel, by decide +kernel⟩, List.mem_of_getElem? (i := 11) (by decide +kernel), List.mem_of_getElem? (i := 323) (by decide +kernel), List.mem_of_getElem? (i := 324) (by decide +kernel)⟩
theorem lw_p6 : lw_okq (⟨"TrueLitres", "isToRemake", "(LTrueLitres$Ticket;III)Z"⟩, 9) := ⟨⟨by decide +kernel, by decide +kernel⟩, List.mem_of_getElem? (i := 11) (by decide +kernel), List.mem_of_getElem? (i := 334) (by decide +kernel), List.mem_of_getElem? (i := 335) (by decide +kernel)⟩
theorem lw_p7 : lw_okq (⟨"TrueLitres", "volumeOf", "(LTrueLitres$Ticket;)J"⟩, 9) := ⟨⟨by decide +kernel, by decide +kernel⟩, List.mem_of_getElem? (i := 11) (by decide +kernel), List.mem_of_getElem? (i := 352) (by decide +kernel), List.mem_of_getElem? (i := 353) (by decide +kernel)⟩
theorem lw_p8 : lw_okq (⟨"TrueLitres", "sumOf", "(III)J"⟩, 9) := ⟨⟨by decide +kernel, by decide +kernel⟩, List.mem_of_getElem? (i := 11) (by decide +kernel), List.mem_of_getElem? (i := 362) (by decide +kernel), List.mem_of_getElem? (i := 363) (by decide +kernel)⟩
theorem lw_p9 : lw_okq (⟨"TrueLitres", "imbalanceOf", "(III)J"⟩, 9) := ⟨⟨by decide +kernel, by decide +kernel⟩, List.mem_of_getElem? (i := 11) (by decide +kernel), List.mem_of_getElem? (i := 389) (by decide +kernel), List.mem_of_getElem? (i := 390) (by decide +kernel)⟩
theorem lw_p10 : lw_okq (⟨"TrueLitres", "endsOf", "(III)J"⟩, 9) := ⟨⟨by decide +kernel, by decide +kernel⟩, List.mem_of_getElem? (i := 11) (by decide +kernel), List.mem_of_getElem? (i := 393) (by decide +kernel), List.mem_of_getElem? (i := 394) (by decide +kernel)⟩
theorem lw_p11 : lw_okq (⟨"TrueLitres", "linesBeyond", "(II)I"⟩, 9) := ⟨⟨by decide +kernel, by decide +kernel⟩, List.mem_of_getElem? (i := 11) (by decide +kernel), List.mem_of_getElem? (i := 402) (by decide +kernel), List.mem_of_getElem? (i := 403) (by decide +kernel)⟩
theorem lw_p12 : lw_okq (⟨"TrueLitres", "fail", "(I)I"⟩, 9) := ⟨⟨by decide +kernel, by decide +kernel⟩, List.mem_of_getElem? (i := 11) (by decide +kernel), List.mem_of_getElem? (i := 427) (by decide +kernel), List.mem_of_getElem? (i := 428) (by decide +kernel)⟩
theorem lw_p13 : lw_okq (⟨"TrueLitres", "leave", "(I)V"⟩, 9) := ⟨⟨by decide +kernel, by decide +kernel⟩, List.mem_of_getElem? (i := 11) (by decide +kernel), List.mem_of_getElem? (i := 486) (by decide +kernel), List.mem_of_getElem? (i := 487) (by decide +kernel)⟩
theorem lw_p14 : lw_okq (⟨"TrueLitres", "tellTicket", "(LTrueLitres$Ticket;)I"⟩, 9) := ⟨⟨by decide +kernel, by decide +kernel⟩, List.mem_of_getElem? (i := 11) (by decide +kernel), List.mem_of_getElem? (i := 490) (by decide +kernel), List.mem_of_getElem? (i := 491) (by decide +kernel)⟩
theorem lw_p15 : lw_okq (⟨"TrueLitres", "countNotReplaced", "()I"⟩, 9) := ⟨⟨by decide +kernel, by decide +kernel⟩, List.mem_of_getElem? (i := 11) (by decide +kernel), List.mem_of_getElem? (i := 515) (by decide +kernel), List.mem_of_getElem? (i := 516) (by decide +kernel)⟩
def lw_privs_1 : List (MethodName × Nat) := [(⟨"TrueLitres", "isMeter", "(I)Z"⟩, 9), (⟨"TrueLitres", "isShut", "(I)Z"⟩, 9), (⟨"TrueLitres", "keep", "(LTrueLitres$Ticket;)V"⟩, 9), (⟨"TrueLitres", "isTicket", "(I)Z"⟩, 9), (⟨"TrueLitres", "replace", "(III)V"⟩, 9), (⟨"TrueLitres", "factorNow", "(LTrueLitres$Ticket;)I"⟩, 9), (⟨"TrueLitres", "isToRemake", "(LTrueLitres$Ticket;III)Z"⟩, 9), (⟨"TrueLitres", "volumeOf", "(LTrueLitres$Ticket;)J"⟩, 9), (⟨"TrueLitres", "sumOf", "(III)J"⟩, 9), (⟨"TrueLitres", "imbalanceOf", "(III)J"⟩, 9), (⟨"TrueLitres", "endsOf", "(III)J"⟩, 9), (⟨"TrueLitres", "linesBeyond", "(II)I"⟩, 9), (⟨"TrueLitres", "fail", "(I)I"⟩, 9), (⟨"TrueLitres", "leave", "(I)V"⟩, 9), (⟨"TrueLitres", "tellTicket", "(LTrueLitres$Ticket;)I"⟩, 9), (⟨"TrueLitres", "countNotReplaced", "()I"⟩, 9)]
theorem lw_r1 : ∀ q ∈ lw_privs_1, lw_okq q := List.forall_mem_cons.mpr ⟨lw_p0, List.forall_mem_cons.mpr ⟨lw_p1, List.forall_mem_cons.mpr ⟨lw_p2, List.forall_mem_cons.mpr ⟨lw_p3, List.forall_mem_cons.mpr ⟨lw_p4, List.forall_mem_cons.mpr ⟨lw_p5, List.forall_mem_cons.mpr ⟨lw_p6, List.forall_mem_cons.mpr ⟨lw_p7, List.forall_mem_cons.mpr ⟨lw_p8, List.forall_mem_cons.mpr ⟨lw_p9, List.forall_mem_cons.mpr ⟨lw_p10, List.forall_mem_cons.mpr ⟨lw_p11, List.forall_mem_cons.mpr ⟨lw_p12, List.forall_mem_cons.mpr ⟨lw_p13, List.forall_mem_cons.mpr ⟨lw_p14, List.forall_mem_cons.mpr ⟨lw_p15, fun _ h => absurd h List.not_mem_nil⟩⟩⟩⟩⟩⟩⟩⟩⟩⟩⟩⟩⟩⟩⟩⟩
theorem lw_p16 : lw_okq (⟨"TrueLitresModel", "noMeter", "(I)Z"⟩, 33) := ⟨⟨by decide +kernel, by decide +kernel⟩, List.mem_of_getElem? (i := 519) (by decide +kernel), List.mem_of_getElem? (i := 637) (by decide +kernel), List.mem_of_getElem? (i := 638) (by decide +kernel)⟩
theorem lw_p17 : lw_okq (⟨"TrueLitresModel", "addFactor", "(IIII)V"⟩, 33) := ⟨⟨by decide +kernel, by decide +kernel⟩, List.mem_of_getElem? (i := 519) (by decide +kernel), List.mem_of_getElem? (i := 654) (by decide +kernel), List.mem_of_getElem? (i := 655) (by decide +kernel)⟩
theorem lw_p18 : lw_okq (⟨"TrueLitresModel", "factorAt", "(III)I"⟩, 33) := ⟨⟨by decide +kernel, by decide +kernel⟩, List.mem_of_getElem? (i := 519) (by decide +kernel), List.mem_of_getElem? (i := 662) (by decide +kernel), List.mem_of_getElem? (i := 663) (by decide +kernel)⟩
theorem lw_p19 : lw_okq (⟨"TrueLitresModel", "findCurve", "(II)V"⟩, 33) := ⟨⟨by decide +kernel, by decide +kernel⟩, List.mem_of_getElem? (i := 519) (by decide +kernel), List.mem_of_getElem? (i := 666) (by decide +kernel), List.mem_of_getElem? (i := 667) (by decide +kernel)⟩
theorem lw_p20 : lw_okq (⟨"TrueLitresModel", "addPoint", "(I)V"⟩, 33) := ⟨⟨by decide +kernel, by decide +kernel⟩, List.mem_of_getElem? (i := 519) (by decide +kernel), List.mem_of_getElem? (i := 670) (by decide +kernel), List.mem_of_getElem? (i := 671) (by decide +kernel)⟩
theorem lw_p21 : lw_okq (⟨"TrueLitresModel", "isGood", "()Z"⟩, 33) := ⟨⟨by decide +kernel, by decide +kernel⟩, List.mem_of_getElem? (i := 519) (by decide +kernel), List.mem_of_getElem? (i := 702) (by decide +kernel), List.mem_of_getElem? (i := 703) (by decide +kernel)⟩
theorem lw_p22 : lw_okq (⟨"TrueLitresModel", "isShut", "(I)Z"⟩, 33) := ⟨⟨by decide +kernel, by decide +kernel⟩, List.mem_of_getElem? (i := 519) (by decide +kernel), List.mem_of_getElem? (i := 721) (by decide +kernel), List.mem_of_getElem? (i := 722) (by decide +kernel)⟩
theorem lw_p23 : lw_okq (⟨"TrueLitresModel", "add", "(IIIIII)I"⟩, 33) := ⟨⟨by decide +kernel, by decide +kernel⟩, List.mem_of_getElem? (i := 519) (by decide +kernel), List.mem_of_getElem? (i := 725) (by decide +kernel), List.mem_of_getElem? (i := 726) (by decide +kernel)⟩
theorem lw_p24 : lw_okq (⟨"TrueLitresModel", "noTicket", "(I)Z"⟩, 33) := ⟨⟨by decide +kernel, by decide +kernel⟩, List.mem_of_getElem? (i := 519) (by decide +kernel), List.mem_of_getElem? (i := 733) (by decide +kernel), List.mem_of_getElem? (i := 734) (by decide +kernel)⟩
theorem lw_p25 : lw_okq (⟨"TrueLitresModel", "isStale", "(IIII)Z"⟩, 33) := ⟨⟨by decide +kernel, by decide +kernel⟩, List.mem_of_getElem? (i := 519) (by decide +kernel), List.mem_of_getElem? (i := 744) (by decide +kernel), List.mem_of_getElem? (i := 745) (by decide +kernel)⟩
theorem lw_p26 : lw_okq (⟨"TrueLitresModel", "volumeOf", "(I)J"⟩, 33) := ⟨⟨by decide +kernel, by decide +kernel⟩, List.mem_of_getElem? (i := 519) (by decide +kernel), List.mem_of_getElem? (i := 756) (by decide +kernel), List.mem_of_getElem? (i := 757) (by decide +kernel)⟩
theorem lw_p27 : lw_okq (⟨"TrueLitresModel", "sumOf", "(III)J"⟩, 33) := ⟨⟨by decide +kernel, by decide +kernel⟩, List.mem_of_getElem? (i := 519) (by decide +kernel), List.mem_of_getElem? (i := 765) (by decide +kernel), List.mem_of_getElem? (i := 766) (by decide +kernel)⟩
theorem lw_p28 : lw_okq (⟨"TrueLitresModel", "imbalance", "(III)J"⟩, 33) := ⟨⟨by decide +kernel, by decide +kernel⟩, List.mem_of_getElem? (i := 519) (by decide +kernel), List.mem_of_getElem? (i := 794) (by decide +kernel), List.mem_of_getElem? (i := 795) (by decide +kernel)⟩
theorem lw_p29 : lw_okq (⟨"TrueLitresModel", "endsOf", "(III)J"⟩, 33) := ⟨⟨by decide +kernel, by decide +kernel⟩, List.mem_of_getElem? (i := 519) (by decide +kernel), List.mem_of_getElem? (i := 798) (by decide +kernel), List.mem_of_getElem? (i := 799) (by decide +kernel)⟩
theorem lw_p30 : lw_okq (⟨"TrueLitresModel", "beyondOf", "(II)I"⟩, 33) := ⟨⟨by decide +kernel, by decide +kernel⟩, List.mem_of_getElem? (i := 519) (by decide +kernel), List.mem_of_getElem? (i := 806) (by decide +kernel), List.mem_of_getElem? (i := 807) (by decide +kernel)⟩
theorem lw_p31 : lw_okq (⟨"TrueLitresModel", "refused", "(I)I"⟩, 33) := ⟨⟨by decide +kernel, by decide +kernel⟩, List.mem_of_getElem? (i := 519) (by decide +kernel), List.mem_of_getElem? (i := 823) (by decide +kernel), List.mem_of_getElem? (i := 824) (by decide +kernel)⟩
def lw_privs_2 : List (MethodName × Nat) := [(⟨"TrueLitresModel", "noMeter", "(I)Z"⟩, 33), (⟨"TrueLitresModel", "addFactor", "(IIII)V"⟩, 33), (⟨"TrueLitresModel", "factorAt", "(III)I"⟩, 33), (⟨"TrueLitresModel", "findCurve", "(II)V"⟩, 33), (⟨"TrueLitresModel", "addPoint", "(I)V"⟩, 33), (⟨"TrueLitresModel", "isGood", "()Z"⟩, 33), (⟨"TrueLitresModel", "isShut", "(I)Z"⟩, 33), (⟨"TrueLitresModel", "add", "(IIIIII)I"⟩, 33), (⟨"TrueLitresModel", "noTicket", "(I)Z"⟩, 33), (⟨"TrueLitresModel", "isStale", "(IIII)Z"⟩, 33), (⟨"TrueLitresModel", "volumeOf", "(I)J"⟩, 33), (⟨"TrueLitresModel", "sumOf", "(III)J"⟩, 33), (⟨"TrueLitresModel", "imbalance", "(III)J"⟩, 33), (⟨"TrueLitresModel", "endsOf", "(III)J"⟩, 33), (⟨"TrueLitresModel", "beyondOf", "(II)I"⟩, 33), (⟨"TrueLitresModel", "refused", "(I)I"⟩, 33)]
theorem lw_r2 : ∀ q ∈ lw_privs_2, lw_okq q := List.forall_mem_cons.mpr ⟨lw_p16, List.forall_mem_cons.mpr ⟨lw_p17, List.forall_mem_cons.mpr ⟨lw_p18, List.forall_mem_cons.mpr ⟨lw_p19, List.forall_mem_cons.mpr ⟨lw_p20, List.forall_mem_cons.mpr ⟨lw_p21, List.forall_mem_cons.mpr ⟨lw_p22, List.forall_mem_cons.mpr ⟨lw_p23, List.forall_mem_cons.mpr ⟨lw_p24, List.forall_mem_cons.mpr ⟨lw_p25, List.forall_mem_cons.mpr ⟨lw_p26, List.forall_mem_cons.mpr ⟨lw_p27, List.forall_mem_cons.mpr ⟨lw_p28, List.forall_mem_cons.mpr ⟨lw_p29, List.forall_mem_cons.mpr ⟨lw_p30, List.forall_mem_cons.mpr ⟨lw_p31, fun _ h => absurd h List.not_mem_nil⟩⟩⟩⟩⟩⟩⟩⟩⟩⟩⟩⟩⟩⟩⟩⟩
theorem lw_p32 : lw_okq (⟨"TrueLitresModel", "failed", "(I)I"⟩, 33) := ⟨⟨by decide +kernel, by decide +kernel⟩, List.mem_of_getElem? (i := 519) (by decide +kernel), List.mem_of_getElem? (i := 827) (by decide +kernel), List.mem_of_getElem? (i := 828) (by decide +kernel)⟩
theorem lw_p33 : lw_okq (⟨"TrueLitresModel", "noCell", "(II)I"⟩, 33) := ⟨⟨by decide +kernel, by decide +kernel⟩, List.mem_of_getElem? (i := 519) (by decide +kernel), List.mem_of_getElem? (i := 839) (by decide +kernel), List.mem_of_getElem? (i := 840) (by decide +kernel)⟩
theorem lw_p34 : lw_okq (⟨"TrueLitresModel", "failedLong", "(I)J"⟩, 33) := ⟨⟨by decide +kernel, by decide +kernel⟩, List.mem_of_getElem? (i := 519) (by decide +kernel), List.mem_of_getElem? (i := 847) (by decide +kernel), List.mem_of_getElem? (i := 848) (by decide +kernel)⟩
theorem lw_p35 : lw_okq (⟨"TrueLitresModel", "traced", "(I)V"⟩, 33) := ⟨⟨by decide +kernel, by decide +kernel⟩, List.mem_of_getElem? (i := 519) (by decide +kernel), List.mem_of_getElem? (i := 866) (by decide +kernel), List.mem_of_getElem? (i := 867) (by decide +kernel)⟩
def lw_privs_3 : List (MethodName × Nat) := [(⟨"TrueLitresModel", "failed", "(I)I"⟩, 33), (⟨"TrueLitresModel", "noCell", "(II)I"⟩, 33), (⟨"TrueLitresModel", "failedLong", "(I)J"⟩, 33), (⟨"TrueLitresModel", "traced", "(I)V"⟩, 33)]
theorem lw_r3 : ∀ q ∈ lw_privs_3, lw_okq q := List.forall_mem_cons.mpr ⟨lw_p32, List.forall_mem_cons.mpr ⟨lw_p33, List.forall_mem_cons.mpr ⟨lw_p34, List.forall_mem_cons.mpr ⟨lw_p35, fun _ h => absurd h List.not_mem_nil⟩⟩⟩⟩
def lw_privs : List (MethodName × Nat) := lw_privs_1 ++ (lw_privs_2 ++ (lw_privs_3))
def lw_tbl : List Cond := k2_sels lw_privs ++ tables_1
theorem lw_privs_ok : ∀ q ∈ lw_privs, lw_okq q := by
  show ∀ q ∈ lw_privs_1 ++ (lw_privs_2 ++ (lw_privs_3)), lw_okq q
  exact List.forall_mem_append.mpr ⟨lw_r1, List.forall_mem_append.mpr ⟨lw_r2, lw_r3⟩⟩
theorem goodIn_r {big : List Cond} (ws : List Cond) (ps : List Nat) (hp : ws = ps.filterMap (fun i => big[i]?)) (h : ws.all goodWord = true) : GoodIn big ws := by
  intro w hw
  have h1 := List.all_eq_true.mp h w hw
  rw [hp] at hw
  obtain ⟨i, -, hi⟩ := List.mem_filterMap.mp hw
  have hm : w ∈ big := by first | exact List.mem_of_getElem? hi | exact List.getElem?_mem hi
  exact ⟨hm, good_of_word h1⟩
theorem goodIn_app {big a b : List Cond} (ha : GoodIn big a) (hb : GoodIn big b) : GoodIn big (a ++ b) := fun w h => (List.mem_append.mp h).elim (ha w) (hb w)
theorem goodIn_ca {big a b : List Cond} {c : Cond} (ha : GoodIn big (c :: a)) (hb : GoodIn big b) : GoodIn big (c :: (a ++ b)) := fun w h => (List.mem_cons.mp h).elim (fun e => ha w (List.mem_cons.mpr (Or.inl e))) (fun h => (List.mem_append.mp h).elim (fun h => ha w (List.mem_cons.mpr (Or.inr h))) (hb w))
theorem goodIn_sub {big ws : List Cond} (hm : ∀ w ∈ ws, w ∈ big) (h : ws.all goodWord = true) : GoodIn big ws := fun w hw => ⟨hm w hw, good_of_word (List.all_eq_true.mp h w hw)⟩
def RX0 : String := "TrueLitres$Meter"
def TX0 : u_T := fun k => match k with
  | 0 => ("TrueLitres$Meter", "k", "I", true)
  | 1 => ("TrueLitres$Meter", "end", "I", false)
  | 2 => ("TrueLitres$Meter", "hows", "[I", true)
  | 3 => ("TrueLitres$Meter", "flows", "[I", true)
  | 4 => ("TrueLitres$Meter", "days", "[I", true)
  | 5 => ("TrueLitres$Meter", "numbers", "[I", true)
  | _ => ("TrueLitres$Meter", "factorCount", "I", false)
def tyX0 : Nat → FieldType := fun k => match k with
  | 0 => .int
  | 1 => .int
  | 2 => .array .int
  | 3 => .array .int
  | 4 => .array .int
  | 5 => .array .int
  | _ => .int
abbrev wsX00 : List Cond := u_ws RX0 TX0 7
theorem nmX0 : ∀ a, a < 7 → ∀ b, b < 7 → a ≠ b → (TX0 a).2.1 ≠ (TX0 b).2.1 := by decide +kernel
theorem tyX0_ok : ∀ k, k < 7 → parseFieldDescriptor (TX0 k).2.2.1 = some (tyX0 k) := by decide +kernel
abbrev cX0_init : ByteArray := prog_2_method_1_code
def yX0_init : MethodName := ⟨RX0, "<init>", "(I)V"⟩
abbrev cX0_isFull : ByteArray := prog_2_method_2_code
def yX0_isFull : MethodName := ⟨RX0, "isFull", "()Z"⟩
abbrev cX0_takeFactor : ByteArray := prog_2_method_3_code
def yX0_takeFactor : MethodName := ⟨RX0, "takeFactor", "(III)V"⟩
abbrev cX0_standsBehind : ByteArray := prog_2_method_4_code
def yX0_standsBehind : MethodName := ⟨RX0, "standsBehind", "(III)Z"⟩
abbrev cX0_isOnCurve : ByteArray := prog_2_method_5_code
def yX0_isOnCurve : MethodName := ⟨RX0, "isOnCurve", "(II)Z"⟩
abbrev cX0_curveSize : ByteArray := prog_2_method_6_code
def yX0_curveSize : MethodName := ⟨RX0, "curveSize", "(I)I"⟩
abbrev cX0_curvePlace : ByteArray := prog_2_method_7_code
def yX0_curvePlace : MethodName := ⟨RX0, "curvePlace", "(II)I"⟩
abbrev cX0_factorAt : ByteArray := prog_2_method_8_code
def yX0_factorAt : MethodName := ⟨RX0, "factorAt", "(II)I"⟩
abbrev cX0_between : ByteArray := prog_2_method_9_code
def yX0_between : MethodName := ⟨RX0, "between", "(III)I"⟩
def RX1 : String := "TrueLitres$Proof"
def TX1 : u_T := fun k => match k with
  | 0 => ("TrueLitres$Proof", "isBegun", "Z", false)
  | 1 => ("TrueLitres$Proof", "meter", "I", false)
  | 2 => ("TrueLitres$Proof", "flow", "I", false)
  | 3 => ("TrueLitres$Proof", "vessel", "I", false)
  | 4 => ("TrueLitres$Proof", "counts", "[J", true)
  | _ => ("TrueLitres$Proof", "runCount", "I", false)
def tyX1 : Nat → FieldType := fun k => match k with
  | 0 => .boolean
  | 1 => .int
  | 2 => .int
  | 3 => .int
  | 4 => .array .long
  | _ => .int
abbrev wsX10 : List Cond := u_ws RX1 TX1 6
theorem nmX1 : ∀ a, a < 6 → ∀ b, b < 6 → a ≠ b → (TX1 a).2.1 ≠ (TX1 b).2.1 := by decide +kernel
theorem tyX1_ok : ∀ k, k < 6 → parseFieldDescriptor (TX1 k).2.2.1 = some (tyX1 k) := by decide +kernel
abbrev cX1_init : ByteArray := prog_3_method_1_code
def yX1_init : MethodName := ⟨RX1, "<init>", "()V"⟩
abbrev cX1_begin : ByteArray := prog_3_method_2_code
def yX1_begin : MethodName := ⟨RX1, "begin", "(III)V"⟩
abbrev cX1_isGood : ByteArray := prog_3_method_3_code
def yX1_isGood : MethodName := ⟨RX1, "isGood", "()Z"⟩
abbrev cX1_factorOf : ByteArray := prog_3_method_4_code
def yX1_factorOf : MethodName := ⟨RX1, "factorOf", "(I)J"⟩
def RX2 : String := "TrueLitres$Sheet"
def TX2 : u_T := fun k => match k with
  | 0 => ("TrueLitres$Sheet", "cells", "[I", true)
  | 1 => ("TrueLitres$Sheet", "hasRow", "Z", false)
  | 2 => ("TrueLitres$Sheet", "lane", "I", false)
  | _ => ("TrueLitres$Sheet", "length", "I", false)
def tyX2 : Nat → FieldType := fun k => match k with
  | 0 => .array .int
  | 1 => .boolean
  | 2 => .int
  | _ => .int
abbrev wsX20 : List Cond := u_ws RX2 TX2 4
theorem nmX2 : ∀ a, a < 4 → ∀ b, b < 4 → a ≠ b → (TX2 a).2.1 ≠ (TX2 b).2.1 := by decide +kernel
theorem tyX2_ok : ∀ k, k < 4 → parseFieldDescriptor (TX2 k).2.2.1 = some (tyX2 k) := by decide +kernel
abbrev cX2_init : ByteArray := prog_4_method_1_code
def yX2_init : MethodName := ⟨RX2, "<init>", "()V"⟩
abbrev cX2_renew : ByteArray := prog_4_method_2_code
def yX2_renew : MethodName := ⟨RX2, "renew", "(II)V"⟩
abbrev cX2_hasCell : ByteArray := prog_4_method_3_code
def yX2_hasCell : MethodName := ⟨RX2, "hasCell", "(I)Z"⟩
abbrev cX2_hasCells : ByteArray := prog_4_method_4_code
def yX2_hasCells : MethodName := ⟨RX2, "hasCells", "(II)Z"⟩
abbrev cX2_fillIn : ByteArray := prog_4_method_5_code
def yX2_fillIn : MethodName := ⟨RX2, "fillIn", "(II)V"⟩
abbrev cX2_faultAs : ByteArray := prog_4_method_6_code
def yX2_faultAs : MethodName := ⟨RX2, "faultAs", "(I)I"⟩
abbrev cX2_watched : ByteArray := prog_4_method_7_code
def yX2_watched : MethodName := ⟨RX2, "watched", "(III)I"⟩
def RX3 : String := "TrueLitres$Ticket"
def TX3 : u_T := fun k => match k with
  | 0 => ("TrueLitres$Ticket", "meter", "I", true)
  | 1 => ("TrueLitres$Ticket", "day", "I", true)
  | 2 => ("TrueLitres$Ticket", "pulses", "I", true)
  | 3 => ("TrueLitres$Ticket", "flow", "I", true)
  | 4 => ("TrueLitres$Ticket", "factor", "I", true)
  | 5 => ("TrueLitres$Ticket", "kind", "I", false)
  | 6 => ("TrueLitres$Ticket", "replacedBy", "I", false)
  | _ => ("TrueLitres$Ticket", "inPlaceOf", "I", false)
def tyX3 : Nat → FieldType := fun k => match k with
  | 0 => .int
  | 1 => .int
  | 2 => .int
  | 3 => .int
  | 4 => .int
  | 5 => .int
  | 6 => .int
  | _ => .int
abbrev wsX30 : List Cond := u_ws RX3 TX3 8
theorem nmX3 : ∀ a, a < 8 → ∀ b, b < 8 → a ≠ b → (TX3 a).2.1 ≠ (TX3 b).2.1 := by decide +kernel
theorem tyX3_ok : ∀ k, k < 8 → parseFieldDescriptor (TX3 k).2.2.1 = some (tyX3 k) := by decide +kernel
abbrev cX3_init : ByteArray := prog_5_method_1_code
def yX3_init : MethodName := ⟨RX3, "<init>", "(IIIII)V"⟩
abbrev cX3_isReplaced : ByteArray := prog_5_method_2_code
def yX3_isReplaced : MethodName := ⟨RX3, "isReplaced", "()Z"⟩
abbrev cX3_counts : ByteArray := prog_5_method_3_code
def yX3_counts : MethodName := ⟨RX3, "counts", "(III)Z"⟩
def RX4 : String := "TrueLitres"
def TX4 : u_T := fun k => match k with
  | 0 => ("TrueLitres", "meters", "[LTrueLitres$Meter;", true)
  | 1 => ("TrueLitres", "meterCount", "I", false)
  | 2 => ("TrueLitres", "latestProof", "LTrueLitres$Proof;", true)
  | 3 => ("TrueLitres", "tickets", "[LTrueLitres$Ticket;", true)
  | 4 => ("TrueLitres", "ticketCount", "I", false)
  | 5 => ("TrueLitres", "shutUpTo", "I", false)
  | 6 => ("TrueLitres", "sheets", "[LTrueLitres$Sheet;", true)
  | 7 => ("TrueLitres", "traced", "I", false)
  | _ => ("TrueLitres", "latestFault", "I", false)
def tyX4 : Nat → FieldType := fun k => match k with
  | 0 => .array (.object "TrueLitres$Meter")
  | 1 => .int
  | 2 => .object "TrueLitres$Proof"
  | 3 => .array (.object "TrueLitres$Ticket")
  | 4 => .int
  | 5 => .int
  | 6 => .array (.object "TrueLitres$Sheet")
  | 7 => .int
  | _ => .int
abbrev wsX40 : List Cond := u_ws RX4 TX4 9
theorem nmX4 : ∀ a, a < 9 → ∀ b, b < 9 → a ≠ b → (TX4 a).2.1 ≠ (TX4 b).2.1 := by decide +kernel
theorem tyX4_ok : ∀ k, k < 9 → parseFieldDescriptor (TX4 k).2.2.1 = some (tyX4 k) := by decide +kernel
abbrev cX4_init : ByteArray := prog_1_method_1_code
def yX4_init : MethodName := ⟨RX4, "<init>", "()V"⟩
abbrev cX4_meter : ByteArray := prog_1_method_2_code
def yX4_meter : MethodName := ⟨RX4, "meter", "(I)I"⟩
abbrev cX4_factor : ByteArray := prog_1_method_3_code
def yX4_factor : MethodName := ⟨RX4, "factor", "(IIII)I"⟩
abbrev cX4_at : ByteArray := prog_1_method_4_code
def yX4_at : MethodName := ⟨RX4, "at", "(III)I"⟩
abbrev cX4_points : ByteArray := prog_1_method_5_code
def yX4_points : MethodName := ⟨RX4, "points", "(II)I"⟩
abbrev cX4_point : ByteArray := prog_1_method_6_code
def yX4_point : MethodName := ⟨RX4, "point", "(IIII)I"⟩
abbrev cX4_proof : ByteArray := prog_1_method_7_code
def yX4_proof : MethodName := ⟨RX4, "proof", "(III)I"⟩
abbrev cX4_run : ByteArray := prog_1_method_8_code
def yX4_run : MethodName := ⟨RX4, "run", "(III)J"⟩
abbrev cX4_proving : ByteArray := prog_1_method_9_code
def yX4_proving : MethodName := ⟨RX4, "proving", "(I)I"⟩
abbrev cX4_accept : ByteArray := prog_1_method_10_code
def yX4_accept : MethodName := ⟨RX4, "accept", "(I)I"⟩
abbrev cX4_ticket : ByteArray := prog_1_method_11_code
def yX4_ticket : MethodName := ⟨RX4, "ticket", "(IIII)I"⟩
abbrev cX4_right : ByteArray := prog_1_method_12_code
def yX4_right : MethodName := ⟨RX4, "right", "(II)I"⟩
abbrev cX4_remake : ByteArray := prog_1_method_13_code
def yX4_remake : MethodName := ⟨RX4, "remake", "(III)I"⟩
abbrev cX4_ticketed : ByteArray := prog_1_method_14_code
def yX4_ticketed : MethodName := ⟨RX4, "ticketed", "(II)I"⟩
abbrev cX4_volume : ByteArray := prog_1_method_15_code
def yX4_volume : MethodName := ⟨RX4, "volume", "(I)J"⟩
abbrev cX4_sum : ByteArray := prog_1_method_16_code
def yX4_sum : MethodName := ⟨RX4, "sum", "(III)J"⟩
abbrev cX4_shut : ByteArray := prog_1_method_17_code
def yX4_shut : MethodName := ⟨RX4, "shut", "(I)I"⟩
abbrev cX4_line : ByteArray := prog_1_method_18_code
def yX4_line : MethodName := ⟨RX4, "line", "(III)I"⟩
abbrev cX4_lined : ByteArray := prog_1_method_19_code
def yX4_lined : MethodName := ⟨RX4, "lined", "(II)I"⟩
abbrev cX4_end : ByteArray := prog_1_method_20_code
def yX4_end : MethodName := ⟨RX4, "end", "(II)I"⟩
abbrev cX4_balance : ByteArray := prog_1_method_21_code
def yX4_balance : MethodName := ⟨RX4, "balance", "(IIII)J"⟩
abbrev cX4_beyond : ByteArray := prog_1_method_22_code
def yX4_beyond : MethodName := ⟨RX4, "beyond", "(II)I"⟩
abbrev cX4_explains : ByteArray := prog_1_method_23_code
def yX4_explains : MethodName := ⟨RX4, "explains", "(III)J"⟩
abbrev cX4_sheet : ByteArray := prog_1_method_24_code
def yX4_sheet : MethodName := ⟨RX4, "sheet", "(III)I"⟩
abbrev cX4_lose : ByteArray := prog_1_method_25_code
def yX4_lose : MethodName := ⟨RX4, "lose", "(I)I"⟩
abbrev cX4_put : ByteArray := prog_1_method_26_code
def yX4_put : MethodName := ⟨RX4, "put", "(III)I"⟩
abbrev cX4_cell : ByteArray := prog_1_method_27_code
def yX4_cell : MethodName := ⟨RX4, "cell", "(III)J"⟩
abbrev cX4_copy : ByteArray := prog_1_method_28_code
def yX4_copy : MethodName := ⟨RX4, "copy", "(IIIII)I"⟩
abbrev cX4_watch : ByteArray := prog_1_method_29_code
def yX4_watch : MethodName := ⟨RX4, "watch", "(IIIII)I"⟩
abbrev cX4_tell : ByteArray := prog_1_method_30_code
def yX4_tell : MethodName := ⟨RX4, "tell", "(I)I"⟩
abbrev cX4_worth : ByteArray := prog_1_method_31_code
def yX4_worth : MethodName := ⟨RX4, "worth", "(I)I"⟩
abbrev cX4_as : ByteArray := prog_1_method_32_code
def yX4_as : MethodName := ⟨RX4, "as", "(II)I"⟩
abbrev cX4_trace : ByteArray := prog_1_method_33_code
def yX4_trace : MethodName := ⟨RX4, "trace", "()I"⟩
abbrev cX4_fault : ByteArray := prog_1_method_34_code
def yX4_fault : MethodName := ⟨RX4, "fault", "()I"⟩
abbrev cX4_told : ByteArray := prog_1_method_35_code
def yX4_told : MethodName := ⟨RX4, "told", "(I)I"⟩
abbrev cX4_isWithin : ByteArray := prog_1_method_36_code
def yX4_isWithin : MethodName := ⟨RX4, "isWithin", "(III)Z"⟩
abbrev cX4_isDay : ByteArray := prog_1_method_37_code
def yX4_isDay : MethodName := ⟨RX4, "isDay", "(I)Z"⟩
abbrev cX4_areDays : ByteArray := prog_1_method_38_code
def yX4_areDays : MethodName := ⟨RX4, "areDays", "(II)Z"⟩
abbrev cX4_isFlow : ByteArray := prog_1_method_39_code
def yX4_isFlow : MethodName := ⟨RX4, "isFlow", "(I)Z"⟩
abbrev cX4_isLine : ByteArray := prog_1_method_40_code
def yX4_isLine : MethodName := ⟨RX4, "isLine", "(I)Z"⟩
abbrev cX4_isSheet : ByteArray := prog_1_method_41_code
def yX4_isSheet : MethodName := ⟨RX4, "isSheet", "(I)Z"⟩
abbrev cX4_isLane : ByteArray := prog_1_method_42_code
def yX4_isLane : MethodName := ⟨RX4, "isLane", "(I)Z"⟩
abbrev cX4_isMeter : ByteArray := prog_1_method_43_code
def yX4_isMeter : MethodName := ⟨RX4, "isMeter", "(I)Z"⟩
abbrev cX4_isTicket : ByteArray := prog_1_method_44_code
def yX4_isTicket : MethodName := ⟨RX4, "isTicket", "(I)Z"⟩
abbrev cX4_isShut : ByteArray := prog_1_method_45_code
def yX4_isShut : MethodName := ⟨RX4, "isShut", "(I)Z"⟩
abbrev cX4_rounded : ByteArray := prog_1_method_46_code
def yX4_rounded : MethodName := ⟨RX4, "rounded", "(JJ)J"⟩
abbrev cX4_fail : ByteArray := prog_1_method_47_code
def yX4_fail : MethodName := ⟨RX4, "fail", "(I)I"⟩
abbrev cX4_leave : ByteArray := prog_1_method_48_code
def yX4_leave : MethodName := ⟨RX4, "leave", "(I)V"⟩
abbrev cX4_tellTicket : ByteArray := prog_1_method_49_code
def yX4_tellTicket : MethodName := ⟨RX4, "tellTicket", "(LTrueLitres$Ticket;)I"⟩
abbrev cX4_keep : ByteArray := prog_1_method_50_code
def yX4_keep : MethodName := ⟨RX4, "keep", "(LTrueLitres$Ticket;)V"⟩
abbrev cX4_replace : ByteArray := prog_1_method_51_code
def yX4_replace : MethodName := ⟨RX4, "replace", "(III)V"⟩
abbrev cX4_factorNow : ByteArray := prog_1_method_52_code
def yX4_factorNow : MethodName := ⟨RX4, "factorNow", "(LTrueLitres$Ticket;)I"⟩
abbrev cX4_isToRemake : ByteArray := prog_1_method_53_code
def yX4_isToRemake : MethodName := ⟨RX4, "isToRemake", "(LTrueLitres$Ticket;III)Z"⟩
abbrev cX4_volumeOf : ByteArray := prog_1_method_54_code
def yX4_volumeOf : MethodName := ⟨RX4, "volumeOf", "(LTrueLitres$Ticket;)J"⟩
abbrev cX4_sumOf : ByteArray := prog_1_method_55_code
def yX4_sumOf : MethodName := ⟨RX4, "sumOf", "(III)J"⟩
abbrev cX4_countNotReplaced : ByteArray := prog_1_method_56_code
def yX4_countNotReplaced : MethodName := ⟨RX4, "countNotReplaced", "()I"⟩
abbrev cX4_imbalanceOf : ByteArray := prog_1_method_57_code
def yX4_imbalanceOf : MethodName := ⟨RX4, "imbalanceOf", "(III)J"⟩
abbrev cX4_endsOf : ByteArray := prog_1_method_58_code
def yX4_endsOf : MethodName := ⟨RX4, "endsOf", "(III)J"⟩
abbrev cX4_linesBeyond : ByteArray := prog_1_method_59_code
def yX4_linesBeyond : MethodName := ⟨RX4, "linesBeyond", "(II)I"⟩
def RX5 : String := "TrueLitresModel"
def TX5 : u_T := fun k => match k with
  | 0 => ("TrueLitresModel", "fault", "I", false)
  | 1 => ("TrueLitresModel", "meters", "I", false)
  | 2 => ("TrueLitresModel", "pulsesOf", "[I", true)
  | 3 => ("TrueLitresModel", "many", "[I", true)
  | 4 => ("TrueLitresModel", "flowAt", "[I", true)
  | 5 => ("TrueLitresModel", "dayAt", "[I", true)
  | 6 => ("TrueLitresModel", "numberAt", "[I", true)
  | 7 => ("TrueLitresModel", "ends", "[I", true)
  | 8 => ("TrueLitresModel", "points", "I", false)
  | 9 => ("TrueLitresModel", "curveFlow", "[I", true)
  | 10 => ("TrueLitresModel", "curveNumber", "[I", true)
  | 11 => ("TrueLitresModel", "curveDay", "[I", true)
  | 12 => ("TrueLitresModel", "proofMeter", "I", false)
  | 13 => ("TrueLitresModel", "proofFlow", "I", false)
  | 14 => ("TrueLitresModel", "vessel", "I", false)
  | 15 => ("TrueLitresModel", "runs", "I", false)
  | 16 => ("TrueLitresModel", "count", "[J", true)
  | 17 => ("TrueLitresModel", "tickets", "I", false)
  | 18 => ("TrueLitresModel", "kind", "[I", true)
  | 19 => ("TrueLitresModel", "meterOf", "[I", true)
  | 20 => ("TrueLitresModel", "day", "[I", true)
  | 21 => ("TrueLitresModel", "pulses", "[I", true)
  | 22 => ("TrueLitresModel", "flow", "[I", true)
  | 23 => ("TrueLitresModel", "factor", "[I", true)
  | 24 => ("TrueLitresModel", "by", "[I", true)
  | 25 => ("TrueLitresModel", "old", "[I", true)
  | 26 => ("TrueLitresModel", "shut", "I", false)
  | 27 => ("TrueLitresModel", "how", "[I", true)
  | 28 => ("TrueLitresModel", "sheetSize", "[I", true)
  | 29 => ("TrueLitresModel", "sheetLane", "[I", true)
  | 30 => ("TrueLitresModel", "sheet", "[I", true)
  | 31 => ("TrueLitresModel", "hands", "[I", true)
  | _ => ("TrueLitresModel", "trace", "I", false)
def tyX5 : Nat → FieldType := fun k => match k with
  | 0 => .int
  | 1 => .int
  | 2 => .array .int
  | 3 => .array .int
  | 4 => .array .int
  | 5 => .array .int
  | 6 => .array .int
  | 7 => .array .int
  | 8 => .int
  | 9 => .array .int
  | 10 => .array .int
  | 11 => .array .int
  | 12 => .int
  | 13 => .int
  | 14 => .int
  | 15 => .int
  | 16 => .array .long
  | 17 => .int
  | 18 => .array .int
  | 19 => .array .int
  | 20 => .array .int
  | 21 => .array .int
  | 22 => .array .int
  | 23 => .array .int
  | 24 => .array .int
  | 25 => .array .int
  | 26 => .int
  | 27 => .array .int
  | 28 => .array .int
  | 29 => .array .int
  | 30 => .array .int
  | 31 => .array .int
  | _ => .int
abbrev wsX50 : List Cond := u_ws RX5 TX5 33
theorem nmX5 : ∀ a, a < 33 → ∀ b, b < 33 → a ≠ b → (TX5 a).2.1 ≠ (TX5 b).2.1 := by decide +kernel
theorem tyX5_ok : ∀ k, k < 33 → parseFieldDescriptor (TX5 k).2.2.1 = some (tyX5 k) := by decide +kernel
abbrev cX5_init : ByteArray := prog_7_method_1_code
def yX5_init : MethodName := ⟨RX5, "<init>", "()V"⟩
abbrev cX5_in : ByteArray := prog_7_method_2_code
def yX5_in : MethodName := ⟨RX5, "in", "(JJJ)Z"⟩
abbrev cX5_lost : ByteArray := prog_7_method_3_code
def yX5_lost : MethodName := ⟨RX5, "lost", "()J"⟩
abbrev cX5_refused : ByteArray := prog_7_method_4_code
def yX5_refused : MethodName := ⟨RX5, "refused", "(I)I"⟩
abbrev cX5_failed : ByteArray := prog_7_method_5_code
def yX5_failed : MethodName := ⟨RX5, "failed", "(I)I"⟩
abbrev cX5_failedLong : ByteArray := prog_7_method_6_code
def yX5_failedLong : MethodName := ⟨RX5, "failedLong", "(I)J"⟩
abbrev cX5_rounded : ByteArray := prog_7_method_7_code
def yX5_rounded : MethodName := ⟨RX5, "rounded", "(JJ)J"⟩
abbrev cX5_noMeter : ByteArray := prog_7_method_8_code
def yX5_noMeter : MethodName := ⟨RX5, "noMeter", "(I)Z"⟩
abbrev cX5_isDay : ByteArray := prog_7_method_9_code
def yX5_isDay : MethodName := ⟨RX5, "isDay", "(I)Z"⟩
abbrev cX5_isFlow : ByteArray := prog_7_method_10_code
def yX5_isFlow : MethodName := ⟨RX5, "isFlow", "(I)Z"⟩
abbrev cX5_isNumber : ByteArray := prog_7_method_11_code
def yX5_isNumber : MethodName := ⟨RX5, "isNumber", "(J)Z"⟩
abbrev cX5_meter : ByteArray := prog_7_method_12_code
def yX5_meter : MethodName := ⟨RX5, "meter", "(I)I"⟩
abbrev cX5_addFactor : ByteArray := prog_7_method_13_code
def yX5_addFactor : MethodName := ⟨RX5, "addFactor", "(IIII)V"⟩
abbrev cX5_factor : ByteArray := prog_7_method_14_code
def yX5_factor : MethodName := ⟨RX5, "factor", "(IIII)I"⟩
abbrev cX5_findCurve : ByteArray := prog_7_method_15_code
def yX5_findCurve : MethodName := ⟨RX5, "findCurve", "(II)V"⟩
abbrev cX5_addPoint : ByteArray := prog_7_method_16_code
def yX5_addPoint : MethodName := ⟨RX5, "addPoint", "(I)V"⟩
abbrev cX5_factorAt : ByteArray := prog_7_method_17_code
def yX5_factorAt : MethodName := ⟨RX5, "factorAt", "(III)I"⟩
abbrev cX5_at : ByteArray := prog_7_method_18_code
def yX5_at : MethodName := ⟨RX5, "at", "(III)I"⟩
abbrev cX5_points : ByteArray := prog_7_method_19_code
def yX5_points : MethodName := ⟨RX5, "points", "(II)I"⟩
abbrev cX5_point : ByteArray := prog_7_method_20_code
def yX5_point : MethodName := ⟨RX5, "point", "(IIII)I"⟩
abbrev cX5_proof : ByteArray := prog_7_method_21_code
def yX5_proof : MethodName := ⟨RX5, "proof", "(III)I"⟩
abbrev cX5_run : ByteArray := prog_7_method_22_code
def yX5_run : MethodName := ⟨RX5, "run", "(III)J"⟩
abbrev cX5_isGood : ByteArray := prog_7_method_23_code
def yX5_isGood : MethodName := ⟨RX5, "isGood", "()Z"⟩
abbrev cX5_proving : ByteArray := prog_7_method_24_code
def yX5_proving : MethodName := ⟨RX5, "proving", "(I)I"⟩
abbrev cX5_accept : ByteArray := prog_7_method_25_code
def yX5_accept : MethodName := ⟨RX5, "accept", "(I)I"⟩
abbrev cX5_noTicket : ByteArray := prog_7_method_26_code
def yX5_noTicket : MethodName := ⟨RX5, "noTicket", "(I)Z"⟩
abbrev cX5_isShut : ByteArray := prog_7_method_27_code
def yX5_isShut : MethodName := ⟨RX5, "isShut", "(I)Z"⟩
abbrev cX5_add : ByteArray := prog_7_method_28_code
def yX5_add : MethodName := ⟨RX5, "add", "(IIIIII)I"⟩
abbrev cX5_ticket : ByteArray := prog_7_method_29_code
def yX5_ticket : MethodName := ⟨RX5, "ticket", "(IIII)I"⟩
abbrev cX5_right : ByteArray := prog_7_method_30_code
def yX5_right : MethodName := ⟨RX5, "right", "(II)I"⟩
abbrev cX5_areDays : ByteArray := prog_7_method_31_code
def yX5_areDays : MethodName := ⟨RX5, "areDays", "(II)Z"⟩
abbrev cX5_isStale : ByteArray := prog_7_method_32_code
def yX5_isStale : MethodName := ⟨RX5, "isStale", "(IIII)Z"⟩
abbrev cX5_remake : ByteArray := prog_7_method_33_code
def yX5_remake : MethodName := ⟨RX5, "remake", "(III)I"⟩
abbrev cX5_ticketed : ByteArray := prog_7_method_34_code
def yX5_ticketed : MethodName := ⟨RX5, "ticketed", "(II)I"⟩
abbrev cX5_volumeOf : ByteArray := prog_7_method_35_code
def yX5_volumeOf : MethodName := ⟨RX5, "volumeOf", "(I)J"⟩
abbrev cX5_volume : ByteArray := prog_7_method_36_code
def yX5_volume : MethodName := ⟨RX5, "volume", "(I)J"⟩
abbrev cX5_sumOf : ByteArray := prog_7_method_37_code
def yX5_sumOf : MethodName := ⟨RX5, "sumOf", "(III)J"⟩
abbrev cX5_sum : ByteArray := prog_7_method_38_code
def yX5_sum : MethodName := ⟨RX5, "sum", "(III)J"⟩
abbrev cX5_shut : ByteArray := prog_7_method_39_code
def yX5_shut : MethodName := ⟨RX5, "shut", "(I)I"⟩
abbrev cX5_noLine : ByteArray := prog_7_method_40_code
def yX5_noLine : MethodName := ⟨RX5, "noLine", "(I)Z"⟩
abbrev cX5_line : ByteArray := prog_7_method_41_code
def yX5_line : MethodName := ⟨RX5, "line", "(III)I"⟩
abbrev cX5_lined : ByteArray := prog_7_method_42_code
def yX5_lined : MethodName := ⟨RX5, "lined", "(II)I"⟩
abbrev cX5_end : ByteArray := prog_7_method_43_code
def yX5_end : MethodName := ⟨RX5, "end", "(II)I"⟩
abbrev cX5_imbalance : ByteArray := prog_7_method_44_code
def yX5_imbalance : MethodName := ⟨RX5, "imbalance", "(III)J"⟩
abbrev cX5_endsOf : ByteArray := prog_7_method_45_code
def yX5_endsOf : MethodName := ⟨RX5, "endsOf", "(III)J"⟩
abbrev cX5_balance : ByteArray := prog_7_method_46_code
def yX5_balance : MethodName := ⟨RX5, "balance", "(IIII)J"⟩
abbrev cX5_beyondOf : ByteArray := prog_7_method_47_code
def yX5_beyondOf : MethodName := ⟨RX5, "beyondOf", "(II)I"⟩
abbrev cX5_beyond : ByteArray := prog_7_method_48_code
def yX5_beyond : MethodName := ⟨RX5, "beyond", "(II)I"⟩
abbrev cX5_explains : ByteArray := prog_7_method_49_code
def yX5_explains : MethodName := ⟨RX5, "explains", "(III)J"⟩
abbrev cX5_noSheet : ByteArray := prog_7_method_50_code
def yX5_noSheet : MethodName := ⟨RX5, "noSheet", "(I)Z"⟩
abbrev cX5_sheet : ByteArray := prog_7_method_51_code
def yX5_sheet : MethodName := ⟨RX5, "sheet", "(III)I"⟩
abbrev cX5_lose : ByteArray := prog_7_method_52_code
def yX5_lose : MethodName := ⟨RX5, "lose", "(I)I"⟩
abbrev cX5_noCell : ByteArray := prog_7_method_53_code
def yX5_noCell : MethodName := ⟨RX5, "noCell", "(II)I"⟩
abbrev cX5_put : ByteArray := prog_7_method_54_code
def yX5_put : MethodName := ⟨RX5, "put", "(III)I"⟩
abbrev cX5_cell : ByteArray := prog_7_method_55_code
def yX5_cell : MethodName := ⟨RX5, "cell", "(III)J"⟩
abbrev cX5_isBeyond : ByteArray := prog_7_method_56_code
def yX5_isBeyond : MethodName := ⟨RX5, "isBeyond", "(III)Z"⟩
abbrev cX5_copy : ByteArray := prog_7_method_57_code
def yX5_copy : MethodName := ⟨RX5, "copy", "(IIIII)I"⟩
abbrev cX5_watch : ByteArray := prog_7_method_58_code
def yX5_watch : MethodName := ⟨RX5, "watch", "(IIIII)I"⟩
abbrev cX5_traced : ByteArray := prog_7_method_59_code
def yX5_traced : MethodName := ⟨RX5, "traced", "(I)V"⟩
abbrev cX5_tell : ByteArray := prog_7_method_60_code
def yX5_tell : MethodName := ⟨RX5, "tell", "(I)I"⟩
abbrev cX5_worth : ByteArray := prog_7_method_61_code
def yX5_worth : MethodName := ⟨RX5, "worth", "(I)I"⟩
abbrev cX5_as : ByteArray := prog_7_method_62_code
def yX5_as : MethodName := ⟨RX5, "as", "(II)I"⟩
abbrev cX5_trace : ByteArray := prog_7_method_63_code
def yX5_trace : MethodName := ⟨RX5, "trace", "()I"⟩
abbrev cX5_fault : ByteArray := prog_7_method_64_code
def yX5_fault : MethodName := ⟨RX5, "fault", "()I"⟩
abbrev cX5_told : ByteArray := prog_7_method_65_code
def yX5_told : MethodName := ⟨RX5, "told", "(I)I"⟩
def RJ9 : String := "java/lang/Math"
def TJ9 : u_T := fun k => match k with
  | _ => ("", "", "", false)
def tyJ9 : Nat → FieldType := fun k => match k with
  | _ => .int
abbrev wsJ90 : List Cond := u_ws RJ9 TJ9 0
theorem nmJ9 : ∀ a, a < 0 → ∀ b, b < 0 → a ≠ b → (TJ9 a).2.1 ≠ (TJ9 b).2.1 := by decide +kernel
theorem tyJ9_ok : ∀ k, k < 0 → parseFieldDescriptor (TJ9 k).2.2.1 = some (tyJ9 k) := by decide +kernel
abbrev cJ9_abs_067f4 : ByteArray := prog_8_method_61_code
def yJ9_abs_067f4 : MethodName := ⟨RJ9, "abs", "(J)J"⟩
abbrev cJ9_max_7cf53 : ByteArray := prog_8_method_65_code
def yJ9_max_7cf53 : MethodName := ⟨RJ9, "max", "(II)I"⟩
abbrev cJ9_max_f86c9 : ByteArray := prog_8_method_66_code
def yJ9_max_f86c9 : MethodName := ⟨RJ9, "max", "(JJ)J"⟩
abbrev cJ9_min_f86c9 : ByteArray := prog_8_method_70_code
def yJ9_min_f86c9 : MethodName := ⟨RJ9, "min", "(JJ)J"⟩
def RJ10 : String := "java/lang/System"
def TJ10 : u_T := fun k => match k with
  | _ => ("", "", "", false)
def tyJ10 : Nat → FieldType := fun k => match k with
  | _ => .int
abbrev wsJ100 : List Cond := u_ws RJ10 TJ10 0
theorem nmJ10 : ∀ a, a < 0 → ∀ b, b < 0 → a ≠ b → (TJ10 a).2.1 ≠ (TJ10 b).2.1 := by decide +kernel
theorem tyJ10_ok : ∀ k, k < 0 → parseFieldDescriptor (TJ10 k).2.2.1 = some (tyJ10 k) := by decide +kernel
def RJ7 : String := "java/util/Arrays"
def TJ7 : u_T := fun k => match k with
  | _ => ("", "", "", false)
def tyJ7 : Nat → FieldType := fun k => match k with
  | _ => .int
abbrev wsJ70 : List Cond := u_ws RJ7 TJ7 0
theorem nmJ7 : ∀ a, a < 0 → ∀ b, b < 0 → a ≠ b → (TJ7 a).2.1 ≠ (TJ7 b).2.1 := by decide +kernel
theorem tyJ7_ok : ∀ k, k < 0 → parseFieldDescriptor (TJ7 k).2.2.1 = some (tyJ7 k) := by decide +kernel
abbrev cJ7_fill_53178 : ByteArray := prog_10_method_103_code
def yJ7_fill_53178 : MethodName := ⟨RJ7, "fill", "([II)V"⟩
def RL : String := "TrueLitresLaw"
abbrev cL_law : ByteArray := code
def yL_law : MethodName := ⟨RL, "law", "([I)Z"⟩
abbrev vwCl : List vw_C := [(RX0, TX0, 7), (RX1, TX1, 6), (RX2, TX2, 4), (RX3, TX3, 8), (RX4, TX4, 9), (RX5, TX5, 33)]
end
section
def wsL_law : List Cond := lw_tbl.filter goodWord
theorem inL {w : Cond} (i : Nat) (h : lw_tbl[i]? = some w) (g : goodWord w = true) : w ∈ wsL_law := by unfold wsL_law; exact List.mem_filter.mpr ⟨List.mem_of_getElem? h, g⟩
theorem inl_of {ws : List Cond} (ps : List Nat) (hp : ws = ps.filterMap (fun i => lw_tbl[i]?)) (h : ws.all goodWord = true) : ∀ w ∈ ws, w ∈ wsL_law := by
  intro w hw
  have h1 := List.all_eq_true.mp h w hw
  rw [hp] at hw
  obtain ⟨i, -, hi⟩ := List.mem_filterMap.mp hw
  exact inL i hi h1
theorem wsL_law_in : ∀ w ∈ wsL_law, w ∈ lw_tbl := fun w h => by unfold wsL_law at h; exact (List.mem_filter.mp h).1
theorem wsL_good : GoodIn lw_tbl wsL_law := fun w h => ⟨wsL_law_in w h, by unfold wsL_law at h; exact good_of_word (List.mem_filter.mp h).2⟩
theorem wNE_RX4_23 : Cond.methodLinkNest RX4 23 yX1_init "TrueLitres" ∈ lw_tbl := List.mem_of_getElem? (i := 58) (by decide +kernel)
theorem wNE_RX4_52 : Cond.methodLinkNest RX4 52 yX2_init "TrueLitres" ∈ lw_tbl := List.mem_of_getElem? (i := 92) (by decide +kernel)
theorem wNE_RX1_48 : Cond.methodLinkNest RX1 48 yX4_rounded "TrueLitres" ∈ lw_tbl := List.mem_of_getElem? (i := 285) (by decide +kernel)
theorem wNE_RX3_36 : Cond.methodLinkNest RX3 36 yX4_isWithin "TrueLitres" ∈ lw_tbl := List.mem_of_getElem? (i := 377) (by decide +kernel)
theorem wNE_RX2_32 : Cond.methodLinkNest RX2 32 yX4_isWithin "TrueLitres" ∈ lw_tbl := List.mem_of_getElem? (i := 485) (by decide +kernel)
theorem wAO_RX0 : Cond.arrayOver (.object RX0) ∈ lw_tbl := List.mem_of_getElem? (i := 55) (by decide +kernel)
theorem wAO_RX3 : Cond.arrayOver (.object RX3) ∈ lw_tbl := List.mem_of_getElem? (i := 88) (by decide +kernel)
theorem wAO_RX2 : Cond.arrayOver (.object RX2) ∈ lw_tbl := List.mem_of_getElem? (i := 90) (by decide +kernel)
theorem wIN_RL : Cond.initialized RL ∈ wsL_law := inL 36 (by decide +kernel) rfl
theorem wIN_RX4 : Cond.initialized RX4 ∈ wsL_law := inL 37 (by decide +kernel) rfl
theorem wIN_RX1 : Cond.initialized RX1 ∈ wsL_law := inL 38 (by decide +kernel) rfl
theorem wIN_RX2 : Cond.initialized RX2 ∈ wsL_law := inL 39 (by decide +kernel) rfl
theorem wIN_RX5 : Cond.initialized RX5 ∈ wsL_law := inL 40 (by decide +kernel) rfl
theorem wIN_RX0 : Cond.initialized RX0 ∈ wsL_law := inL 41 (by decide +kernel) rfl
theorem wIN_RJ9 : Cond.initialized RJ9 ∈ wsL_law := inL 42 (by decide +kernel) rfl
theorem wIN_RX3 : Cond.initialized RX3 ∈ wsL_law := inL 43 (by decide +kernel) rfl
theorem wIN_RJ7 : Cond.initialized RJ7 ∈ wsL_law := inL 44 (by decide +kernel) rfl
theorem wIN_RJ10 : Cond.initialized RJ10 ∈ wsL_law := inL 45 (by decide +kernel) rfl
theorem wCL_RL_7 : Cond.classLink RL 7 RX4 ∈ wsL_law := inL 46 (by decide +kernel) rfl
theorem wIS_RX4 : Cond.instantiable RX4 9 ∈ wsL_law := inL 47 (by decide +kernel) rfl
theorem wML_RL_9 : Cond.methodLink RL 9 yX4_init ∈ wsL_law := inL 48 (by decide +kernel) rfl
theorem wIM_X4_init : Cond.instanceMethod yX4_init ∈ wsL_law := inL 49 (by decide +kernel) rfl
theorem wCO_X4_init : Cond.code yX4_init cX4_init 2 none ∈ wsL_law := inL 50 (by decide +kernel) rfl
theorem wML_RX4_3 : Cond.methodLink RX4 3 objectInit ∈ wsL_law := inL 51 (by decide +kernel) rfl
theorem wIM_objectInit : Cond.instanceMethod objectInit ∈ wsL_law := inL 52 (by decide +kernel) rfl
theorem wCO_objectInit : Cond.code objectInit ⟨#[0xb1]⟩ 1 none ∈ wsL_law := inL 53 (by decide +kernel) rfl
theorem wCL_RX4_11 : Cond.classLink RX4 11 RX0 ∈ wsL_law := inL 54 (by decide +kernel) rfl
theorem wCL_RX4_21 : Cond.classLink RX4 21 RX1 ∈ wsL_law := inL 56 (by decide +kernel) rfl
theorem wIS_RX1 : Cond.instantiable RX1 6 ∈ wsL_law := inL 57 (by decide +kernel) rfl
theorem wIM_X1_init : Cond.instanceMethod yX1_init ∈ wsL_law := inL 59 (by decide +kernel) rfl
theorem wCO_X1_init : Cond.code yX1_init cX1_init 1 none ∈ wsL_law := inL 60 (by decide +kernel) rfl
theorem wML_RX1_3 : Cond.methodLink RX1 3 objectInit ∈ wsL_law := inL 61 (by decide +kernel) rfl
theorem wFL_RX1_9 : Cond.fieldLink RX1 9 "TrueLitres$Proof" "isBegun" "Z" ∈ wsL_law := inL 62 (by decide +kernel) rfl
theorem wFL_RX4_108 : Cond.fieldLink RX4 108 "TrueLitres$Proof" "isBegun" "Z" ∈ wsL_law := inL 63 (by decide +kernel) rfl
theorem wFL_RX1_15 : Cond.fieldLink RX1 15 "TrueLitres$Proof" "meter" "I" ∈ wsL_law := inL 64 (by decide +kernel) rfl
theorem wFL_RX4_124 : Cond.fieldLink RX4 124 "TrueLitres$Proof" "meter" "I" ∈ wsL_law := inL 65 (by decide +kernel) rfl
theorem wFL_RX1_19 : Cond.fieldLink RX1 19 "TrueLitres$Proof" "flow" "I" ∈ wsL_law := inL 66 (by decide +kernel) rfl
theorem wFL_RX4_127 : Cond.fieldLink RX4 127 "TrueLitres$Proof" "flow" "I" ∈ wsL_law := inL 67 (by decide +kernel) rfl
theorem wFL_RX1_22 : Cond.fieldLink RX1 22 "TrueLitres$Proof" "vessel" "I" ∈ wsL_law := inL 68 (by decide +kernel) rfl
theorem wFL_RX1_25 : Cond.fieldLink RX1 25 "TrueLitres$Proof" "counts" "[J" ∈ wsL_law := inL 69 (by decide +kernel) rfl
theorem wFL_RX4_117 : Cond.fieldLink RX4 117 "TrueLitres$Proof" "counts" "[J" ∈ wsL_law := inL 70 (by decide +kernel) rfl
theorem wFL_RX1_29 : Cond.fieldLink RX1 29 "TrueLitres$Proof" "runCount" "I" ∈ wsL_law := inL 71 (by decide +kernel) rfl
theorem wFL_RX4_112 : Cond.fieldLink RX4 112 "TrueLitres$Proof" "runCount" "I" ∈ wsL_law := inL 72 (by decide +kernel) rfl
theorem wAC_long : Cond.arrayClass .long ∈ wsL_law := inL 86 (by decide +kernel) rfl
theorem wCL_RX4_28 : Cond.classLink RX4 28 RX3 ∈ wsL_law := inL 87 (by decide +kernel) rfl
theorem wCL_RX4_40 : Cond.classLink RX4 40 RX2 ∈ wsL_law := inL 89 (by decide +kernel) rfl
theorem wIS_RX2 : Cond.instantiable RX2 4 ∈ wsL_law := inL 91 (by decide +kernel) rfl
theorem wIM_X2_init : Cond.instanceMethod yX2_init ∈ wsL_law := inL 93 (by decide +kernel) rfl
theorem wCO_X2_init : Cond.code yX2_init cX2_init 1 none ∈ wsL_law := inL 94 (by decide +kernel) rfl
theorem wML_RX2_3 : Cond.methodLink RX2 3 objectInit ∈ wsL_law := inL 95 (by decide +kernel) rfl
theorem wFL_RX2_9 : Cond.fieldLink RX2 9 "TrueLitres$Sheet" "cells" "[I" ∈ wsL_law := inL 96 (by decide +kernel) rfl
theorem wFL_RX4_253 : Cond.fieldLink RX4 253 "TrueLitres$Sheet" "cells" "[I" ∈ wsL_law := inL 97 (by decide +kernel) rfl
theorem wFL_RX2_15 : Cond.fieldLink RX2 15 "TrueLitres$Sheet" "hasRow" "Z" ∈ wsL_law := inL 98 (by decide +kernel) rfl
theorem wFL_RX4_241 : Cond.fieldLink RX4 241 "TrueLitres$Sheet" "hasRow" "Z" ∈ wsL_law := inL 99 (by decide +kernel) rfl
theorem wFL_RX2_19 : Cond.fieldLink RX2 19 "TrueLitres$Sheet" "lane" "I" ∈ wsL_law := inL 100 (by decide +kernel) rfl
theorem wFL_RX4_256 : Cond.fieldLink RX4 256 "TrueLitres$Sheet" "lane" "I" ∈ wsL_law := inL 101 (by decide +kernel) rfl
theorem wFL_RX2_23 : Cond.fieldLink RX2 23 "TrueLitres$Sheet" "length" "I" ∈ wsL_law := inL 102 (by decide +kernel) rfl
theorem wAC_int : Cond.arrayClass .int ∈ wsL_law := inL 112 (by decide +kernel) rfl
theorem wFL_RX4_13 : Cond.fieldLink RX4 13 "TrueLitres" "meters" "[LTrueLitres$Meter;" ∈ wsL_law := inL 113 (by decide +kernel) rfl
theorem wFL_RX4_17 : Cond.fieldLink RX4 17 "TrueLitres" "meterCount" "I" ∈ wsL_law := inL 114 (by decide +kernel) rfl
theorem wFL_RX4_24 : Cond.fieldLink RX4 24 "TrueLitres" "latestProof" "LTrueLitres$Proof;" ∈ wsL_law := inL 115 (by decide +kernel) rfl
theorem wFL_RX4_30 : Cond.fieldLink RX4 30 "TrueLitres" "tickets" "[LTrueLitres$Ticket;" ∈ wsL_law := inL 116 (by decide +kernel) rfl
theorem wFL_RX4_34 : Cond.fieldLink RX4 34 "TrueLitres" "ticketCount" "I" ∈ wsL_law := inL 117 (by decide +kernel) rfl
theorem wFL_RX4_37 : Cond.fieldLink RX4 37 "TrueLitres" "shutUpTo" "I" ∈ wsL_law := inL 118 (by decide +kernel) rfl
theorem wFL_RX4_42 : Cond.fieldLink RX4 42 "TrueLitres" "sheets" "[LTrueLitres$Sheet;" ∈ wsL_law := inL 119 (by decide +kernel) rfl
theorem wFL_RX4_46 : Cond.fieldLink RX4 46 "TrueLitres" "traced" "I" ∈ wsL_law := inL 120 (by decide +kernel) rfl
theorem wFL_RX4_49 : Cond.fieldLink RX4 49 "TrueLitres" "latestFault" "I" ∈ wsL_law := inL 121 (by decide +kernel) rfl
theorem wML_RL_13 : Cond.methodLink RL 13 yX4_meter ∈ wsL_law := inL 141 (by decide +kernel) rfl
theorem wIM_X4_meter : Cond.instanceMethod yX4_meter ∈ wsL_law := inL 142 (by decide +kernel) rfl
theorem wSE_X4_meter : Cond.selects RX4 yX4_meter yX4_meter ∈ wsL_law := inL 143 (by decide +kernel) rfl
theorem wCO_X4_meter : Cond.code yX4_meter cX4_meter 2 (some .int) ∈ wsL_law := inL 144 (by decide +kernel) rfl
theorem wKI_RX4_53 : Cond.constant RX4 53 (100000) ∈ wsL_law := inL 145 (by decide +kernel) rfl
theorem wML_RX4_54 : Cond.methodLink RX4 54 yX4_isWithin ∈ wsL_law := inL 146 (by decide +kernel) rfl
theorem wST_X4_isWithin : Cond.static yX4_isWithin ∈ wsL_law := inL 147 (by decide +kernel) rfl
theorem wCO_X4_isWithin : Cond.code yX4_isWithin cX4_isWithin 3 (some .boolean) ∈ wsL_law := inL 148 (by decide +kernel) rfl
theorem wIS_RX0 : Cond.instantiable RX0 7 ∈ wsL_law := inL 149 (by decide +kernel) rfl
theorem wML_RX4_58 : Cond.methodLink RX4 58 yX0_init ∈ wsL_law := inL 150 (by decide +kernel) rfl
theorem wIM_X0_init : Cond.instanceMethod yX0_init ∈ wsL_law := inL 151 (by decide +kernel) rfl
theorem wCO_X0_init : Cond.code yX0_init cX0_init 2 none ∈ wsL_law := inL 152 (by decide +kernel) rfl
theorem wML_RX0_3 : Cond.methodLink RX0 3 objectInit ∈ wsL_law := inL 153 (by decide +kernel) rfl
theorem wFL_RX0_31 : Cond.fieldLink RX0 31 "TrueLitres$Meter" "k" "I" ∈ wsL_law := inL 154 (by decide +kernel) rfl
theorem wFL_RX4_130 : Cond.fieldLink RX4 130 "TrueLitres$Meter" "k" "I" ∈ wsL_law := inL 155 (by decide +kernel) rfl
theorem wFL_RX0_9 : Cond.fieldLink RX0 9 "TrueLitres$Meter" "end" "I" ∈ wsL_law := inL 156 (by decide +kernel) rfl
theorem wFL_RX4_203 : Cond.fieldLink RX4 203 "TrueLitres$Meter" "end" "I" ∈ wsL_law := inL 157 (by decide +kernel) rfl
theorem wFL_RX0_15 : Cond.fieldLink RX0 15 "TrueLitres$Meter" "hows" "[I" ∈ wsL_law := inL 158 (by decide +kernel) rfl
theorem wFL_RX4_200 : Cond.fieldLink RX4 200 "TrueLitres$Meter" "hows" "[I" ∈ wsL_law := inL 159 (by decide +kernel) rfl
theorem wFL_RX0_19 : Cond.fieldLink RX0 19 "TrueLitres$Meter" "flows" "[I" ∈ wsL_law := inL 160 (by decide +kernel) rfl
theorem wFL_RX4_95 : Cond.fieldLink RX4 95 "TrueLitres$Meter" "flows" "[I" ∈ wsL_law := inL 161 (by decide +kernel) rfl
theorem wFL_RX0_22 : Cond.fieldLink RX0 22 "TrueLitres$Meter" "days" "[I" ∈ wsL_law := inL 162 (by decide +kernel) rfl
theorem wFL_RX0_25 : Cond.fieldLink RX0 25 "TrueLitres$Meter" "numbers" "[I" ∈ wsL_law := inL 163 (by decide +kernel) rfl
theorem wFL_RX4_99 : Cond.fieldLink RX4 99 "TrueLitres$Meter" "numbers" "[I" ∈ wsL_law := inL 164 (by decide +kernel) rfl
theorem wFL_RX0_28 : Cond.fieldLink RX0 28 "TrueLitres$Meter" "factorCount" "I" ∈ wsL_law := inL 165 (by decide +kernel) rfl
theorem wFL_RX4_81 : Cond.fieldLink RX4 81 "TrueLitres$Meter" "factorCount" "I" ∈ wsL_law := inL 166 (by decide +kernel) rfl
theorem wML_RL_18 : Cond.methodLink RL 18 yX4_factor ∈ wsL_law := inL 182 (by decide +kernel) rfl
theorem wIM_X4_factor : Cond.instanceMethod yX4_factor ∈ wsL_law := inL 183 (by decide +kernel) rfl
theorem wSE_X4_factor : Cond.selects RX4 yX4_factor yX4_factor ∈ wsL_law := inL 184 (by decide +kernel) rfl
theorem wCO_X4_factor : Cond.code yX4_factor cX4_factor 6 (some .int) ∈ wsL_law := inL 185 (by decide +kernel) rfl
theorem wML_RX4_61 : Cond.methodLink RX4 61 yX4_isMeter ∈ wsL_law := inL 186 (by decide +kernel) rfl
theorem wIM_X4_isMeter : Cond.instanceMethod yX4_isMeter ∈ wsL_law := inL 188 (by decide +kernel) rfl
theorem wCO_X4_isMeter : Cond.code yX4_isMeter cX4_isMeter 2 (some .boolean) ∈ wsL_law := inL 189 (by decide +kernel) rfl
theorem wML_RX4_65 : Cond.methodLink RX4 65 yX4_isFlow ∈ wsL_law := inL 190 (by decide +kernel) rfl
theorem wST_X4_isFlow : Cond.static yX4_isFlow ∈ wsL_law := inL 191 (by decide +kernel) rfl
theorem wCO_X4_isFlow : Cond.code yX4_isFlow cX4_isFlow 1 (some .boolean) ∈ wsL_law := inL 192 (by decide +kernel) rfl
theorem wML_RX4_68 : Cond.methodLink RX4 68 yX4_isDay ∈ wsL_law := inL 193 (by decide +kernel) rfl
theorem wST_X4_isDay : Cond.static yX4_isDay ∈ wsL_law := inL 194 (by decide +kernel) rfl
theorem wCO_X4_isDay : Cond.code yX4_isDay cX4_isDay 1 (some .boolean) ∈ wsL_law := inL 195 (by decide +kernel) rfl
theorem wKI_RX4_71 : Cond.constant RX4 71 (95000) ∈ wsL_law := inL 196 (by decide +kernel) rfl
theorem wKI_RX4_72 : Cond.constant RX4 72 (105000) ∈ wsL_law := inL 197 (by decide +kernel) rfl
theorem wML_RX4_73 : Cond.methodLink RX4 73 yX0_isFull ∈ wsL_law := inL 198 (by decide +kernel) rfl
theorem wIM_X0_isFull : Cond.instanceMethod yX0_isFull ∈ wsL_law := inL 199 (by decide +kernel) rfl
theorem wSE_X0_isFull : Cond.selects RX0 yX0_isFull yX0_isFull ∈ wsL_law := inL 200 (by decide +kernel) rfl
theorem wCO_X0_isFull : Cond.code yX0_isFull cX0_isFull 1 (some .boolean) ∈ wsL_law := inL 201 (by decide +kernel) rfl
theorem wML_RX4_77 : Cond.methodLink RX4 77 yX0_takeFactor ∈ wsL_law := inL 202 (by decide +kernel) rfl
theorem wIM_X0_takeFactor : Cond.instanceMethod yX0_takeFactor ∈ wsL_law := inL 203 (by decide +kernel) rfl
theorem wSE_X0_takeFactor : Cond.selects RX0 yX0_takeFactor yX0_takeFactor ∈ wsL_law := inL 204 (by decide +kernel) rfl
theorem wCO_X0_takeFactor : Cond.code yX0_takeFactor cX0_takeFactor 5 none ∈ wsL_law := inL 205 (by decide +kernel) rfl
theorem wML_RX0_34 : Cond.methodLink RX0 34 yX0_standsBehind ∈ wsL_law := inL 206 (by decide +kernel) rfl
theorem wIM_X0_standsBehind : Cond.instanceMethod yX0_standsBehind ∈ wsL_law := inL 207 (by decide +kernel) rfl
theorem wSE_X0_standsBehind : Cond.selects RX0 yX0_standsBehind yX0_standsBehind ∈ wsL_law := inL 208 (by decide +kernel) rfl
theorem wCO_X0_standsBehind : Cond.code yX0_standsBehind cX0_standsBehind 4 (some .boolean) ∈ wsL_law := inL 209 (by decide +kernel) rfl
theorem wML_RL_23 : Cond.methodLink RL 23 yX4_at ∈ wsL_law := inL 210 (by decide +kernel) rfl
theorem wIM_X4_at : Cond.instanceMethod yX4_at ∈ wsL_law := inL 211 (by decide +kernel) rfl
theorem wSE_X4_at : Cond.selects RX4 yX4_at yX4_at ∈ wsL_law := inL 212 (by decide +kernel) rfl
theorem wCO_X4_at : Cond.code yX4_at cX4_at 4 (some .int) ∈ wsL_law := inL 213 (by decide +kernel) rfl
theorem wML_RX4_84 : Cond.methodLink RX4 84 yX0_factorAt ∈ wsL_law := inL 214 (by decide +kernel) rfl
theorem wIM_X0_factorAt : Cond.instanceMethod yX0_factorAt ∈ wsL_law := inL 215 (by decide +kernel) rfl
theorem wSE_X0_factorAt : Cond.selects RX0 yX0_factorAt yX0_factorAt ∈ wsL_law := inL 216 (by decide +kernel) rfl
theorem wCO_X0_factorAt : Cond.code yX0_factorAt cX0_factorAt 6 (some .int) ∈ wsL_law := inL 217 (by decide +kernel) rfl
theorem wML_RX0_38 : Cond.methodLink RX0 38 yX0_isOnCurve ∈ wsL_law := inL 218 (by decide +kernel) rfl
theorem wIM_X0_isOnCurve : Cond.instanceMethod yX0_isOnCurve ∈ wsL_law := inL 219 (by decide +kernel) rfl
theorem wSE_X0_isOnCurve : Cond.selects RX0 yX0_isOnCurve yX0_isOnCurve ∈ wsL_law := inL 220 (by decide +kernel) rfl
theorem wCO_X0_isOnCurve : Cond.code yX0_isOnCurve cX0_isOnCurve 4 (some .boolean) ∈ wsL_law := inL 221 (by decide +kernel) rfl
theorem wKI_RX0_42 : Cond.constant RX0 42 (100000) ∈ wsL_law := inL 222 (by decide +kernel) rfl
theorem wML_RX0_43 : Cond.methodLink RX0 43 yX0_between ∈ wsL_law := inL 223 (by decide +kernel) rfl
theorem wIM_X0_between : Cond.instanceMethod yX0_between ∈ wsL_law := inL 224 (by decide +kernel) rfl
theorem wSE_X0_between : Cond.selects RX0 yX0_between yX0_between ∈ wsL_law := inL 225 (by decide +kernel) rfl
theorem wCO_X0_between : Cond.code yX0_between cX0_between 5 (some .int) ∈ wsL_law := inL 226 (by decide +kernel) rfl
theorem wML_RL_28 : Cond.methodLink RL 28 yX4_points ∈ wsL_law := inL 227 (by decide +kernel) rfl
theorem wIM_X4_points : Cond.instanceMethod yX4_points ∈ wsL_law := inL 228 (by decide +kernel) rfl
theorem wSE_X4_points : Cond.selects RX4 yX4_points yX4_points ∈ wsL_law := inL 229 (by decide +kernel) rfl
theorem wCO_X4_points : Cond.code yX4_points cX4_points 3 (some .int) ∈ wsL_law := inL 230 (by decide +kernel) rfl
theorem wML_RX4_88 : Cond.methodLink RX4 88 yX0_curveSize ∈ wsL_law := inL 231 (by decide +kernel) rfl
theorem wIM_X0_curveSize : Cond.instanceMethod yX0_curveSize ∈ wsL_law := inL 232 (by decide +kernel) rfl
theorem wSE_X0_curveSize : Cond.selects RX0 yX0_curveSize yX0_curveSize ∈ wsL_law := inL 233 (by decide +kernel) rfl
theorem wCO_X0_curveSize : Cond.code yX0_curveSize cX0_curveSize 4 (some .int) ∈ wsL_law := inL 234 (by decide +kernel) rfl
theorem wML_RL_33 : Cond.methodLink RL 33 yX4_point ∈ wsL_law := inL 235 (by decide +kernel) rfl
theorem wIM_X4_point : Cond.instanceMethod yX4_point ∈ wsL_law := inL 236 (by decide +kernel) rfl
theorem wSE_X4_point : Cond.selects RX4 yX4_point yX4_point ∈ wsL_law := inL 237 (by decide +kernel) rfl
theorem wCO_X4_point : Cond.code yX4_point cX4_point 6 (some .int) ∈ wsL_law := inL 238 (by decide +kernel) rfl
theorem wML_RX4_92 : Cond.methodLink RX4 92 yX0_curvePlace ∈ wsL_law := inL 239 (by decide +kernel) rfl
theorem wIM_X0_curvePlace : Cond.instanceMethod yX0_curvePlace ∈ wsL_law := inL 240 (by decide +kernel) rfl
theorem wSE_X0_curvePlace : Cond.selects RX0 yX0_curvePlace yX0_curvePlace ∈ wsL_law := inL 241 (by decide +kernel) rfl
theorem wCO_X0_curvePlace : Cond.code yX0_curvePlace cX0_curvePlace 5 (some .int) ∈ wsL_law := inL 242 (by decide +kernel) rfl
theorem wML_RL_37 : Cond.methodLink RL 37 yX4_proof ∈ wsL_law := inL 243 (by decide +kernel) rfl
theorem wIM_X4_proof : Cond.instanceMethod yX4_proof ∈ wsL_law := inL 244 (by decide +kernel) rfl
theorem wSE_X4_proof : Cond.selects RX4 yX4_proof yX4_proof ∈ wsL_law := inL 245 (by decide +kernel) rfl
theorem wCO_X4_proof : Cond.code yX4_proof cX4_proof 4 (some .int) ∈ wsL_law := inL 246 (by decide +kernel) rfl
theorem wKI_RX4_102 : Cond.constant RX4 102 (1000000) ∈ wsL_law := inL 247 (by decide +kernel) rfl
theorem wML_RX4_103 : Cond.methodLink RX4 103 yX1_begin ∈ wsL_law := inL 248 (by decide +kernel) rfl
theorem wIM_X1_begin : Cond.instanceMethod yX1_begin ∈ wsL_law := inL 249 (by decide +kernel) rfl
theorem wSE_X1_begin : Cond.selects RX1 yX1_begin yX1_begin ∈ wsL_law := inL 250 (by decide +kernel) rfl
theorem wCO_X1_begin : Cond.code yX1_begin cX1_begin 4 none ∈ wsL_law := inL 251 (by decide +kernel) rfl
theorem wML_RL_41 : Cond.methodLink RL 41 yX4_run ∈ wsL_law := inL 252 (by decide +kernel) rfl
theorem wIM_X4_run : Cond.instanceMethod yX4_run ∈ wsL_law := inL 253 (by decide +kernel) rfl
theorem wSE_X4_run : Cond.selects RX4 yX4_run yX4_run ∈ wsL_law := inL 254 (by decide +kernel) rfl
theorem wCO_X4_run : Cond.code yX4_run cX4_run 6 (some .long) ∈ wsL_law := inL 255 (by decide +kernel) rfl
theorem wKL_RX4_106 : Cond.constantLong RX4 106 (-9223372036854775808) ∈ wsL_law := inL 256 (by decide +kernel) rfl
theorem wKL_RX4_115 : Cond.constantLong RX4 115 (1000) ∈ wsL_law := inL 257 (by decide +kernel) rfl
theorem wML_RL_46 : Cond.methodLink RL 46 yX4_proving ∈ wsL_law := inL 258 (by decide +kernel) rfl
theorem wIM_X4_proving : Cond.instanceMethod yX4_proving ∈ wsL_law := inL 259 (by decide +kernel) rfl
theorem wSE_X4_proving : Cond.selects RX4 yX4_proving yX4_proving ∈ wsL_law := inL 260 (by decide +kernel) rfl
theorem wCO_X4_proving : Cond.code yX4_proving cX4_proving 2 (some .int) ∈ wsL_law := inL 261 (by decide +kernel) rfl
theorem wML_RX4_121 : Cond.methodLink RX4 121 yX1_isGood ∈ wsL_law := inL 262 (by decide +kernel) rfl
theorem wIM_X1_isGood : Cond.instanceMethod yX1_isGood ∈ wsL_law := inL 263 (by decide +kernel) rfl
theorem wSE_X1_isGood : Cond.selects RX1 yX1_isGood yX1_isGood ∈ wsL_law := inL 264 (by decide +kernel) rfl
theorem wCO_X1_isGood : Cond.code yX1_isGood cX1_isGood 6 (some .boolean) ∈ wsL_law := inL 265 (by decide +kernel) rfl
theorem wML_RX1_32 : Cond.methodLink RX1 32 Lib.MathLoose.min_long.x ∈ wsL_law := inL 266 (by decide +kernel) rfl
theorem wST_J9_min_f86c9 : Cond.static Lib.MathLoose.min_long.x ∈ wsL_law := inL 267 (by decide +kernel) rfl
theorem wCO_J9_min_f86c9 : Cond.code Lib.MathLoose.min_long.x Lib.MathLoose.min_long.code 4 (some .long) ∈ wsL_law := inL 268 (by decide +kernel) rfl
theorem wML_RX1_38 : Cond.methodLink RX1 38 Lib.MathLoose.max_long.x ∈ wsL_law := inL 269 (by decide +kernel) rfl
theorem wST_J9_max_f86c9 : Cond.static Lib.MathLoose.max_long.x ∈ wsL_law := inL 270 (by decide +kernel) rfl
theorem wCO_J9_max_f86c9 : Cond.code Lib.MathLoose.max_long.x Lib.MathLoose.max_long.code 4 (some .long) ∈ wsL_law := inL 271 (by decide +kernel) rfl
theorem wKL_RX1_41 : Cond.constantLong RX1 41 (2000) ∈ wsL_law := inL 272 (by decide +kernel) rfl
theorem wML_RL_50 : Cond.methodLink RL 50 yX4_accept ∈ wsL_law := inL 273 (by decide +kernel) rfl
theorem wIM_X4_accept : Cond.instanceMethod yX4_accept ∈ wsL_law := inL 274 (by decide +kernel) rfl
theorem wSE_X4_accept : Cond.selects RX4 yX4_accept yX4_accept ∈ wsL_law := inL 275 (by decide +kernel) rfl
theorem wCO_X4_accept : Cond.code yX4_accept cX4_accept 5 (some .int) ∈ wsL_law := inL 276 (by decide +kernel) rfl
theorem wML_RX4_133 : Cond.methodLink RX4 133 yX1_factorOf ∈ wsL_law := inL 277 (by decide +kernel) rfl
theorem wIM_X1_factorOf : Cond.instanceMethod yX1_factorOf ∈ wsL_law := inL 278 (by decide +kernel) rfl
theorem wSE_X1_factorOf : Cond.selects RX1 yX1_factorOf yX1_factorOf ∈ wsL_law := inL 279 (by decide +kernel) rfl
theorem wCO_X1_factorOf : Cond.code yX1_factorOf cX1_factorOf 5 (some .long) ∈ wsL_law := inL 280 (by decide +kernel) rfl
theorem wML_RX1_43 : Cond.methodLink RX1 43 Lib.Math.max.name ∈ wsL_law := inL 281 (by decide +kernel) rfl
theorem wST_J9_max_7cf53 : Cond.static Lib.Math.max.name ∈ wsL_law := inL 282 (by decide +kernel) rfl
theorem wCO_J9_max_7cf53 : Cond.code Lib.Math.max.name Lib.Math.max.code 2 (some .int) ∈ wsL_law := inL 283 (by decide +kernel) rfl
theorem wKL_RX1_46 : Cond.constantLong RX1 46 (500) ∈ wsL_law := inL 284 (by decide +kernel) rfl
theorem wST_X4_rounded : Cond.static yX4_rounded ∈ wsL_law := inL 286 (by decide +kernel) rfl
theorem wCO_X4_rounded : Cond.code yX4_rounded cX4_rounded 4 (some .long) ∈ wsL_law := inL 287 (by decide +kernel) rfl
theorem wKL_RX4_285 : Cond.constantLong RX4 285 (2) ∈ wsL_law := inL 288 (by decide +kernel) rfl
theorem wKL_RX4_137 : Cond.constantLong RX4 137 (95000) ∈ wsL_law := inL 289 (by decide +kernel) rfl
theorem wKL_RX4_139 : Cond.constantLong RX4 139 (105000) ∈ wsL_law := inL 290 (by decide +kernel) rfl
theorem wML_RL_54 : Cond.methodLink RL 54 yX4_ticket ∈ wsL_law := inL 291 (by decide +kernel) rfl
theorem wIM_X4_ticket : Cond.instanceMethod yX4_ticket ∈ wsL_law := inL 292 (by decide +kernel) rfl
theorem wSE_X4_ticket : Cond.selects RX4 yX4_ticket yX4_ticket ∈ wsL_law := inL 293 (by decide +kernel) rfl
theorem wCO_X4_ticket : Cond.code yX4_ticket cX4_ticket 5 (some .int) ∈ wsL_law := inL 294 (by decide +kernel) rfl
theorem wKI_RX4_141 : Cond.constant RX4 141 (10000000) ∈ wsL_law := inL 295 (by decide +kernel) rfl
theorem wML_RX4_142 : Cond.methodLink RX4 142 yX4_isShut ∈ wsL_law := inL 296 (by decide +kernel) rfl
theorem wIM_X4_isShut : Cond.instanceMethod yX4_isShut ∈ wsL_law := inL 298 (by decide +kernel) rfl
theorem wCO_X4_isShut : Cond.code yX4_isShut cX4_isShut 2 (some .boolean) ∈ wsL_law := inL 299 (by decide +kernel) rfl
theorem wIS_RX3 : Cond.instantiable RX3 8 ∈ wsL_law := inL 300 (by decide +kernel) rfl
theorem wML_RX4_145 : Cond.methodLink RX4 145 yX3_init ∈ wsL_law := inL 301 (by decide +kernel) rfl
theorem wIM_X3_init : Cond.instanceMethod yX3_init ∈ wsL_law := inL 302 (by decide +kernel) rfl
theorem wCO_X3_init : Cond.code yX3_init cX3_init 6 none ∈ wsL_law := inL 303 (by decide +kernel) rfl
theorem wML_RX3_3 : Cond.methodLink RX3 3 objectInit ∈ wsL_law := inL 304 (by decide +kernel) rfl
theorem wFL_RX3_21 : Cond.fieldLink RX3 21 "TrueLitres$Ticket" "meter" "I" ∈ wsL_law := inL 305 (by decide +kernel) rfl
theorem wFL_RX4_178 : Cond.fieldLink RX4 178 "TrueLitres$Ticket" "meter" "I" ∈ wsL_law := inL 306 (by decide +kernel) rfl
theorem wFL_RX3_24 : Cond.fieldLink RX3 24 "TrueLitres$Ticket" "day" "I" ∈ wsL_law := inL 307 (by decide +kernel) rfl
theorem wFL_RX4_158 : Cond.fieldLink RX4 158 "TrueLitres$Ticket" "day" "I" ∈ wsL_law := inL 308 (by decide +kernel) rfl
theorem wFL_RX3_27 : Cond.fieldLink RX3 27 "TrueLitres$Ticket" "pulses" "I" ∈ wsL_law := inL 309 (by decide +kernel) rfl
theorem wFL_RX4_172 : Cond.fieldLink RX4 172 "TrueLitres$Ticket" "pulses" "I" ∈ wsL_law := inL 310 (by decide +kernel) rfl
theorem wFL_RX3_30 : Cond.fieldLink RX3 30 "TrueLitres$Ticket" "flow" "I" ∈ wsL_law := inL 311 (by decide +kernel) rfl
theorem wFL_RX4_179 : Cond.fieldLink RX4 179 "TrueLitres$Ticket" "flow" "I" ∈ wsL_law := inL 312 (by decide +kernel) rfl
theorem wFL_RX3_33 : Cond.fieldLink RX3 33 "TrueLitres$Ticket" "factor" "I" ∈ wsL_law := inL 313 (by decide +kernel) rfl
theorem wFL_RX4_180 : Cond.fieldLink RX4 180 "TrueLitres$Ticket" "factor" "I" ∈ wsL_law := inL 314 (by decide +kernel) rfl
theorem wFL_RX3_9 : Cond.fieldLink RX3 9 "TrueLitres$Ticket" "kind" "I" ∈ wsL_law := inL 315 (by decide +kernel) rfl
theorem wFL_RX4_175 : Cond.fieldLink RX4 175 "TrueLitres$Ticket" "kind" "I" ∈ wsL_law := inL 316 (by decide +kernel) rfl
theorem wFL_RX3_15 : Cond.fieldLink RX3 15 "TrueLitres$Ticket" "replacedBy" "I" ∈ wsL_law := inL 317 (by decide +kernel) rfl
theorem wFL_RX4_183 : Cond.fieldLink RX4 183 "TrueLitres$Ticket" "replacedBy" "I" ∈ wsL_law := inL 318 (by decide +kernel) rfl
theorem wFL_RX3_18 : Cond.fieldLink RX3 18 "TrueLitres$Ticket" "inPlaceOf" "I" ∈ wsL_law := inL 319 (by decide +kernel) rfl
theorem wFL_RX4_186 : Cond.fieldLink RX4 186 "TrueLitres$Ticket" "inPlaceOf" "I" ∈ wsL_law := inL 320 (by decide +kernel) rfl
theorem wML_RX4_148 : Cond.methodLink RX4 148 yX4_keep ∈ wsL_law := inL 338 (by decide +kernel) rfl
theorem wIM_X4_keep : Cond.instanceMethod yX4_keep ∈ wsL_law := inL 340 (by decide +kernel) rfl
theorem wCO_X4_keep : Cond.code yX4_keep cX4_keep 2 none ∈ wsL_law := inL 341 (by decide +kernel) rfl
theorem wML_RL_58 : Cond.methodLink RL 58 yX4_right ∈ wsL_law := inL 342 (by decide +kernel) rfl
theorem wIM_X4_right : Cond.instanceMethod yX4_right ∈ wsL_law := inL 343 (by decide +kernel) rfl
theorem wSE_X4_right : Cond.selects RX4 yX4_right yX4_right ∈ wsL_law := inL 344 (by decide +kernel) rfl
theorem wCO_X4_right : Cond.code yX4_right cX4_right 3 (some .int) ∈ wsL_law := inL 345 (by decide +kernel) rfl
theorem wML_RX4_152 : Cond.methodLink RX4 152 yX4_isTicket ∈ wsL_law := inL 346 (by decide +kernel) rfl
theorem wIM_X4_isTicket : Cond.instanceMethod yX4_isTicket ∈ wsL_law := inL 348 (by decide +kernel) rfl
theorem wCO_X4_isTicket : Cond.code yX4_isTicket cX4_isTicket 2 (some .boolean) ∈ wsL_law := inL 349 (by decide +kernel) rfl
theorem wML_RX4_155 : Cond.methodLink RX4 155 yX3_isReplaced ∈ wsL_law := inL 350 (by decide +kernel) rfl
theorem wIM_X3_isReplaced : Cond.instanceMethod yX3_isReplaced ∈ wsL_law := inL 351 (by decide +kernel) rfl
theorem wSE_X3_isReplaced : Cond.selects RX3 yX3_isReplaced yX3_isReplaced ∈ wsL_law := inL 352 (by decide +kernel) rfl
theorem wCO_X3_isReplaced : Cond.code yX3_isReplaced cX3_isReplaced 1 (some .boolean) ∈ wsL_law := inL 353 (by decide +kernel) rfl
theorem wML_RX4_161 : Cond.methodLink RX4 161 yX4_replace ∈ wsL_law := inL 354 (by decide +kernel) rfl
theorem wIM_X4_replace : Cond.instanceMethod yX4_replace ∈ wsL_law := inL 356 (by decide +kernel) rfl
theorem wCO_X4_replace : Cond.code yX4_replace cX4_replace 6 none ∈ wsL_law := inL 357 (by decide +kernel) rfl
theorem wML_RX4_287 : Cond.methodLink RX4 287 yX4_factorNow ∈ wsL_law := inL 358 (by decide +kernel) rfl
theorem wIM_X4_factorNow : Cond.instanceMethod yX4_factorNow ∈ wsL_law := inL 360 (by decide +kernel) rfl
theorem wCO_X4_factorNow : Cond.code yX4_factorNow cX4_factorNow 2 (some .int) ∈ wsL_law := inL 361 (by decide +kernel) rfl
theorem wML_RL_62 : Cond.methodLink RL 62 yX4_remake ∈ wsL_law := inL 362 (by decide +kernel) rfl
theorem wIM_X4_remake : Cond.instanceMethod yX4_remake ∈ wsL_law := inL 363 (by decide +kernel) rfl
theorem wSE_X4_remake : Cond.selects RX4 yX4_remake yX4_remake ∈ wsL_law := inL 364 (by decide +kernel) rfl
theorem wCO_X4_remake : Cond.code yX4_remake cX4_remake 7 (some .int) ∈ wsL_law := inL 365 (by decide +kernel) rfl
theorem wML_RX4_164 : Cond.methodLink RX4 164 yX4_areDays ∈ wsL_law := inL 366 (by decide +kernel) rfl
theorem wST_X4_areDays : Cond.static yX4_areDays ∈ wsL_law := inL 367 (by decide +kernel) rfl
theorem wCO_X4_areDays : Cond.code yX4_areDays cX4_areDays 2 (some .boolean) ∈ wsL_law := inL 368 (by decide +kernel) rfl
theorem wML_RX4_168 : Cond.methodLink RX4 168 yX4_isToRemake ∈ wsL_law := inL 369 (by decide +kernel) rfl
theorem wIM_X4_isToRemake : Cond.instanceMethod yX4_isToRemake ∈ wsL_law := inL 371 (by decide +kernel) rfl
theorem wCO_X4_isToRemake : Cond.code yX4_isToRemake cX4_isToRemake 5 (some .boolean) ∈ wsL_law := inL 372 (by decide +kernel) rfl
theorem wML_RX4_290 : Cond.methodLink RX4 290 yX3_counts ∈ wsL_law := inL 373 (by decide +kernel) rfl
theorem wIM_X3_counts : Cond.instanceMethod yX3_counts ∈ wsL_law := inL 374 (by decide +kernel) rfl
theorem wSE_X3_counts : Cond.selects RX3 yX3_counts yX3_counts ∈ wsL_law := inL 375 (by decide +kernel) rfl
theorem wCO_X3_counts : Cond.code yX3_counts cX3_counts 4 (some .boolean) ∈ wsL_law := inL 376 (by decide +kernel) rfl
theorem wML_RX3_40 : Cond.methodLink RX3 40 yX3_isReplaced ∈ wsL_law := inL 378 (by decide +kernel) rfl
theorem wML_RL_66 : Cond.methodLink RL 66 yX4_ticketed ∈ wsL_law := inL 379 (by decide +kernel) rfl
theorem wIM_X4_ticketed : Cond.instanceMethod yX4_ticketed ∈ wsL_law := inL 380 (by decide +kernel) rfl
theorem wSE_X4_ticketed : Cond.selects RX4 yX4_ticketed yX4_ticketed ∈ wsL_law := inL 381 (by decide +kernel) rfl
theorem wCO_X4_ticketed : Cond.code yX4_ticketed cX4_ticketed 4 (some .int) ∈ wsL_law := inL 382 (by decide +kernel) rfl
theorem wML_RL_70 : Cond.methodLink RL 70 yX4_volume ∈ wsL_law := inL 383 (by decide +kernel) rfl
theorem wIM_X4_volume : Cond.instanceMethod yX4_volume ∈ wsL_law := inL 384 (by decide +kernel) rfl
theorem wSE_X4_volume : Cond.selects RX4 yX4_volume yX4_volume ∈ wsL_law := inL 385 (by decide +kernel) rfl
theorem wCO_X4_volume : Cond.code yX4_volume cX4_volume 2 (some .long) ∈ wsL_law := inL 386 (by decide +kernel) rfl
theorem wML_RX4_189 : Cond.methodLink RX4 189 yX4_volumeOf ∈ wsL_law := inL 387 (by decide +kernel) rfl
theorem wIM_X4_volumeOf : Cond.instanceMethod yX4_volumeOf ∈ wsL_law := inL 389 (by decide +kernel) rfl
theorem wCO_X4_volumeOf : Cond.code yX4_volumeOf cX4_volumeOf 2 (some .long) ∈ wsL_law := inL 390 (by decide +kernel) rfl
theorem wKL_RX4_292 : Cond.constantLong RX4 292 (10) ∈ wsL_law := inL 391 (by decide +kernel) rfl
theorem wML_RX4_294 : Cond.methodLink RX4 294 yX4_rounded ∈ wsL_law := inL 392 (by decide +kernel) rfl
theorem wML_RL_75 : Cond.methodLink RL 75 yX4_sum ∈ wsL_law := inL 393 (by decide +kernel) rfl
theorem wIM_X4_sum : Cond.instanceMethod yX4_sum ∈ wsL_law := inL 394 (by decide +kernel) rfl
theorem wSE_X4_sum : Cond.selects RX4 yX4_sum yX4_sum ∈ wsL_law := inL 395 (by decide +kernel) rfl
theorem wCO_X4_sum : Cond.code yX4_sum cX4_sum 4 (some .long) ∈ wsL_law := inL 396 (by decide +kernel) rfl
theorem wML_RX4_193 : Cond.methodLink RX4 193 yX4_sumOf ∈ wsL_law := inL 397 (by decide +kernel) rfl
theorem wIM_X4_sumOf : Cond.instanceMethod yX4_sumOf ∈ wsL_law := inL 399 (by decide +kernel) rfl
theorem wCO_X4_sumOf : Cond.code yX4_sumOf cX4_sumOf 7 (some .long) ∈ wsL_law := inL 400 (by decide +kernel) rfl
theorem wML_RL_79 : Cond.methodLink RL 79 yX4_shut ∈ wsL_law := inL 401 (by decide +kernel) rfl
theorem wIM_X4_shut : Cond.instanceMethod yX4_shut ∈ wsL_law := inL 402 (by decide +kernel) rfl
theorem wSE_X4_shut : Cond.selects RX4 yX4_shut yX4_shut ∈ wsL_law := inL 403 (by decide +kernel) rfl
theorem wCO_X4_shut : Cond.code yX4_shut cX4_shut 3 (some .int) ∈ wsL_law := inL 404 (by decide +kernel) rfl
theorem wML_RL_83 : Cond.methodLink RL 83 yX4_line ∈ wsL_law := inL 405 (by decide +kernel) rfl
theorem wIM_X4_line : Cond.instanceMethod yX4_line ∈ wsL_law := inL 406 (by decide +kernel) rfl
theorem wSE_X4_line : Cond.selects RX4 yX4_line yX4_line ∈ wsL_law := inL 407 (by decide +kernel) rfl
theorem wCO_X4_line : Cond.code yX4_line cX4_line 5 (some .int) ∈ wsL_law := inL 408 (by decide +kernel) rfl
theorem wML_RX4_197 : Cond.methodLink RX4 197 yX4_isLine ∈ wsL_law := inL 409 (by decide +kernel) rfl
theorem wST_X4_isLine : Cond.static yX4_isLine ∈ wsL_law := inL 410 (by decide +kernel) rfl
theorem wCO_X4_isLine : Cond.code yX4_isLine cX4_isLine 1 (some .boolean) ∈ wsL_law := inL 411 (by decide +kernel) rfl
theorem wML_RL_87 : Cond.methodLink RL 87 yX4_lined ∈ wsL_law := inL 412 (by decide +kernel) rfl
theorem wIM_X4_lined : Cond.instanceMethod yX4_lined ∈ wsL_law := inL 413 (by decide +kernel) rfl
theorem wSE_X4_lined : Cond.selects RX4 yX4_lined yX4_lined ∈ wsL_law := inL 414 (by decide +kernel) rfl
theorem wCO_X4_lined : Cond.code yX4_lined cX4_lined 3 (some .int) ∈ wsL_law := inL 415 (by decide +kernel) rfl
theorem wML_RL_91 : Cond.methodLink RL 91 yX4_end ∈ wsL_law := inL 416 (by decide +kernel) rfl
theorem wIM_X4_end : Cond.instanceMethod yX4_end ∈ wsL_law := inL 417 (by decide +kernel) rfl
theorem wSE_X4_end : Cond.selects RX4 yX4_end yX4_end ∈ wsL_law := inL 418 (by decide +kernel) rfl
theorem wCO_X4_end : Cond.code yX4_end cX4_end 4 (some .int) ∈ wsL_law := inL 419 (by decide +kernel) rfl
theorem wML_RL_95 : Cond.methodLink RL 95 yX4_balance ∈ wsL_law := inL 420 (by decide +kernel) rfl
theorem wIM_X4_balance : Cond.instanceMethod yX4_balance ∈ wsL_law := inL 421 (by decide +kernel) rfl
theorem wSE_X4_balance : Cond.selects RX4 yX4_balance yX4_balance ∈ wsL_law := inL 422 (by decide +kernel) rfl
theorem wCO_X4_balance : Cond.code yX4_balance cX4_balance 5 (some .long) ∈ wsL_law := inL 423 (by decide +kernel) rfl
theorem wML_RX4_206 : Cond.methodLink RX4 206 yX4_imbalanceOf ∈ wsL_law := inL 424 (by decide +kernel) rfl
theorem wIM_X4_imbalanceOf : Cond.instanceMethod yX4_imbalanceOf ∈ wsL_law := inL 426 (by decide +kernel) rfl
theorem wCO_X4_imbalanceOf : Cond.code yX4_imbalanceOf cX4_imbalanceOf 7 (some .long) ∈ wsL_law := inL 427 (by decide +kernel) rfl
theorem wML_RX4_209 : Cond.methodLink RX4 209 yX4_endsOf ∈ wsL_law := inL 428 (by decide +kernel) rfl
theorem wIM_X4_endsOf : Cond.instanceMethod yX4_endsOf ∈ wsL_law := inL 430 (by decide +kernel) rfl
theorem wCO_X4_endsOf : Cond.code yX4_endsOf cX4_endsOf 7 (some .long) ∈ wsL_law := inL 431 (by decide +kernel) rfl
theorem wKL_RX4_297 : Cond.constantLong RX4 297 (100000) ∈ wsL_law := inL 432 (by decide +kernel) rfl
theorem wML_RL_100 : Cond.methodLink RL 100 yX4_beyond ∈ wsL_law := inL 433 (by decide +kernel) rfl
theorem wIM_X4_beyond : Cond.instanceMethod yX4_beyond ∈ wsL_law := inL 434 (by decide +kernel) rfl
theorem wSE_X4_beyond : Cond.selects RX4 yX4_beyond yX4_beyond ∈ wsL_law := inL 435 (by decide +kernel) rfl
theorem wCO_X4_beyond : Cond.code yX4_beyond cX4_beyond 3 (some .int) ∈ wsL_law := inL 436 (by decide +kernel) rfl
theorem wML_RX4_212 : Cond.methodLink RX4 212 yX4_linesBeyond ∈ wsL_law := inL 437 (by decide +kernel) rfl
theorem wIM_X4_linesBeyond : Cond.instanceMethod yX4_linesBeyond ∈ wsL_law := inL 439 (by decide +kernel) rfl
theorem wCO_X4_linesBeyond : Cond.code yX4_linesBeyond cX4_linesBeyond 5 (some .int) ∈ wsL_law := inL 440 (by decide +kernel) rfl
theorem wML_RX4_299 : Cond.methodLink RX4 299 Lib.MathLoose.abs_long.x ∈ wsL_law := inL 441 (by decide +kernel) rfl
theorem wST_J9_abs_067f4 : Cond.static Lib.MathLoose.abs_long.x ∈ wsL_law := inL 442 (by decide +kernel) rfl
theorem wCO_J9_abs_067f4 : Cond.code Lib.MathLoose.abs_long.x Lib.MathLoose.abs_long.code 2 (some .long) ∈ wsL_law := inL 443 (by decide +kernel) rfl
theorem wML_RL_104 : Cond.methodLink RL 104 yX4_explains ∈ wsL_law := inL 444 (by decide +kernel) rfl
theorem wIM_X4_explains : Cond.instanceMethod yX4_explains ∈ wsL_law := inL 445 (by decide +kernel) rfl
theorem wSE_X4_explains : Cond.selects RX4 yX4_explains yX4_explains ∈ wsL_law := inL 446 (by decide +kernel) rfl
theorem wCO_X4_explains : Cond.code yX4_explains cX4_explains 15 (some .long) ∈ wsL_law := inL 447 (by decide +kernel) rfl
theorem wKL_RX4_215 : Cond.constantLong RX4 215 (-1152921504606846976) ∈ wsL_law := inL 448 (by decide +kernel) rfl
theorem wKL_RX4_217 : Cond.constantLong RX4 217 (1152921504606846976) ∈ wsL_law := inL 449 (by decide +kernel) rfl
theorem wML_RX4_219 : Cond.methodLink RX4 219 Lib.MathLoose.max_long.x ∈ wsL_law := inL 450 (by decide +kernel) rfl
theorem wML_RX4_225 : Cond.methodLink RX4 225 Lib.MathLoose.min_long.x ∈ wsL_law := inL 451 (by decide +kernel) rfl
theorem wML_RL_108 : Cond.methodLink RL 108 yX4_sheet ∈ wsL_law := inL 452 (by decide +kernel) rfl
theorem wIM_X4_sheet : Cond.instanceMethod yX4_sheet ∈ wsL_law := inL 453 (by decide +kernel) rfl
theorem wSE_X4_sheet : Cond.selects RX4 yX4_sheet yX4_sheet ∈ wsL_law := inL 454 (by decide +kernel) rfl
theorem wCO_X4_sheet : Cond.code yX4_sheet cX4_sheet 4 (some .int) ∈ wsL_law := inL 455 (by decide +kernel) rfl
theorem wML_RX4_228 : Cond.methodLink RX4 228 yX4_isSheet ∈ wsL_law := inL 456 (by decide +kernel) rfl
theorem wST_X4_isSheet : Cond.static yX4_isSheet ∈ wsL_law := inL 457 (by decide +kernel) rfl
theorem wCO_X4_isSheet : Cond.code yX4_isSheet cX4_isSheet 1 (some .boolean) ∈ wsL_law := inL 458 (by decide +kernel) rfl
theorem wML_RX4_231 : Cond.methodLink RX4 231 yX4_isLane ∈ wsL_law := inL 459 (by decide +kernel) rfl
theorem wST_X4_isLane : Cond.static yX4_isLane ∈ wsL_law := inL 460 (by decide +kernel) rfl
theorem wCO_X4_isLane : Cond.code yX4_isLane cX4_isLane 1 (some .boolean) ∈ wsL_law := inL 461 (by decide +kernel) rfl
theorem wML_RX4_234 : Cond.methodLink RX4 234 yX4_fail ∈ wsL_law := inL 462 (by decide +kernel) rfl
theorem wIM_X4_fail : Cond.instanceMethod yX4_fail ∈ wsL_law := inL 464 (by decide +kernel) rfl
theorem wCO_X4_fail : Cond.code yX4_fail cX4_fail 2 (some .int) ∈ wsL_law := inL 465 (by decide +kernel) rfl
theorem wML_RX4_237 : Cond.methodLink RX4 237 yX2_renew ∈ wsL_law := inL 466 (by decide +kernel) rfl
theorem wIM_X2_renew : Cond.instanceMethod yX2_renew ∈ wsL_law := inL 467 (by decide +kernel) rfl
theorem wSE_X2_renew : Cond.selects RX2 yX2_renew yX2_renew ∈ wsL_law := inL 468 (by decide +kernel) rfl
theorem wCO_X2_renew : Cond.code yX2_renew cX2_renew 3 none ∈ wsL_law := inL 469 (by decide +kernel) rfl
theorem wML_RX2_26 : Cond.methodLink RX2 26 yJ7_fill_53178 ∈ wsL_law := inL 470 (by decide +kernel) rfl
theorem wST_J7_fill_53178 : Cond.static yJ7_fill_53178 ∈ wsL_law := inL 471 (by decide +kernel) rfl
theorem wCO_J7_fill_53178 : Cond.code yJ7_fill_53178 cJ7_fill_53178 4 none ∈ wsL_law := inL 472 (by decide +kernel) rfl
theorem wML_RL_112 : Cond.methodLink RL 112 yX4_lose ∈ wsL_law := inL 473 (by decide +kernel) rfl
theorem wIM_X4_lose : Cond.instanceMethod yX4_lose ∈ wsL_law := inL 474 (by decide +kernel) rfl
theorem wSE_X4_lose : Cond.selects RX4 yX4_lose yX4_lose ∈ wsL_law := inL 475 (by decide +kernel) rfl
theorem wCO_X4_lose : Cond.code yX4_lose cX4_lose 3 (some .int) ∈ wsL_law := inL 476 (by decide +kernel) rfl
theorem wML_RL_116 : Cond.methodLink RL 116 yX4_put ∈ wsL_law := inL 477 (by decide +kernel) rfl
theorem wIM_X4_put : Cond.instanceMethod yX4_put ∈ wsL_law := inL 478 (by decide +kernel) rfl
theorem wSE_X4_put : Cond.selects RX4 yX4_put yX4_put ∈ wsL_law := inL 479 (by decide +kernel) rfl
theorem wCO_X4_put : Cond.code yX4_put cX4_put 4 (some .int) ∈ wsL_law := inL 480 (by decide +kernel) rfl
theorem wML_RX4_244 : Cond.methodLink RX4 244 yX2_hasCell ∈ wsL_law := inL 481 (by decide +kernel) rfl
theorem wIM_X2_hasCell : Cond.instanceMethod yX2_hasCell ∈ wsL_law := inL 482 (by decide +kernel) rfl
theorem wSE_X2_hasCell : Cond.selects RX2 yX2_hasCell yX2_hasCell ∈ wsL_law := inL 483 (by decide +kernel) rfl
theorem wCO_X2_hasCell : Cond.code yX2_hasCell cX2_hasCell 2 (some .boolean) ∈ wsL_law := inL 484 (by decide +kernel) rfl
theorem wML_RX4_247 : Cond.methodLink RX4 247 yX2_fillIn ∈ wsL_law := inL 486 (by decide +kernel) rfl
theorem wIM_X2_fillIn : Cond.instanceMethod yX2_fillIn ∈ wsL_law := inL 487 (by decide +kernel) rfl
theorem wSE_X2_fillIn : Cond.selects RX2 yX2_fillIn yX2_fillIn ∈ wsL_law := inL 488 (by decide +kernel) rfl
theorem wCO_X2_fillIn : Cond.code yX2_fillIn cX2_fillIn 3 none ∈ wsL_law := inL 489 (by decide +kernel) rfl
theorem wML_RL_120 : Cond.methodLink RL 120 yX4_cell ∈ wsL_law := inL 490 (by decide +kernel) rfl
theorem wIM_X4_cell : Cond.instanceMethod yX4_cell ∈ wsL_law := inL 491 (by decide +kernel) rfl
theorem wSE_X4_cell : Cond.selects RX4 yX4_cell yX4_cell ∈ wsL_law := inL 492 (by decide +kernel) rfl
theorem wCO_X4_cell : Cond.code yX4_cell cX4_cell 4 (some .long) ∈ wsL_law := inL 493 (by decide +kernel) rfl
theorem wML_RX4_250 : Cond.methodLink RX4 250 yX2_faultAs ∈ wsL_law := inL 494 (by decide +kernel) rfl
theorem wIM_X2_faultAs : Cond.instanceMethod yX2_faultAs ∈ wsL_law := inL 495 (by decide +kernel) rfl
theorem wSE_X2_faultAs : Cond.selects RX2 yX2_faultAs yX2_faultAs ∈ wsL_law := inL 496 (by decide +kernel) rfl
theorem wCO_X2_faultAs : Cond.code yX2_faultAs cX2_faultAs 2 (some .int) ∈ wsL_law := inL 497 (by decide +kernel) rfl
theorem wML_RL_124 : Cond.methodLink RL 124 yX4_copy ∈ wsL_law := inL 498 (by decide +kernel) rfl
theorem wIM_X4_copy : Cond.instanceMethod yX4_copy ∈ wsL_law := inL 499 (by decide +kernel) rfl
theorem wSE_X4_copy : Cond.selects RX4 yX4_copy yX4_copy ∈ wsL_law := inL 500 (by decide +kernel) rfl
theorem wCO_X4_copy : Cond.code yX4_copy cX4_copy 8 (some .int) ∈ wsL_law := inL 501 (by decide +kernel) rfl
theorem wML_RX4_259 : Cond.methodLink RX4 259 yX2_hasCells ∈ wsL_law := inL 502 (by decide +kernel) rfl
theorem wIM_X2_hasCells : Cond.instanceMethod yX2_hasCells ∈ wsL_law := inL 503 (by decide +kernel) rfl
theorem wSE_X2_hasCells : Cond.selects RX2 yX2_hasCells yX2_hasCells ∈ wsL_law := inL 504 (by decide +kernel) rfl
theorem wCO_X2_hasCells : Cond.code yX2_hasCells cX2_hasCells 3 (some .boolean) ∈ wsL_law := inL 505 (by decide +kernel) rfl
theorem wML_RX4_262 : Cond.methodLink RX4 262 arraycopyName ∈ wsL_law := inL 506 (by decide +kernel) rfl
theorem wST_arraycopy : Cond.static arraycopyName ∈ wsL_law := inL 507 (by decide +kernel) rfl
theorem wNA_arraycopy : Cond.native arraycopyName ∈ wsL_law := inL 508 (by decide +kernel) rfl
theorem wML_RL_129 : Cond.methodLink RL 129 yX4_watch ∈ wsL_law := inL 509 (by decide +kernel) rfl
theorem wIM_X4_watch : Cond.instanceMethod yX4_watch ∈ wsL_law := inL 510 (by decide +kernel) rfl
theorem wSE_X4_watch : Cond.selects RX4 yX4_watch yX4_watch ∈ wsL_law := inL 511 (by decide +kernel) rfl
theorem wCO_X4_watch : Cond.code yX4_watch cX4_watch 7 (some .int) ∈ wsL_law := inL 512 (by decide +kernel) rfl
theorem wML_RX4_268 : Cond.methodLink RX4 268 yX2_watched ∈ wsL_law := inL 513 (by decide +kernel) rfl
theorem wIM_X2_watched : Cond.instanceMethod yX2_watched ∈ wsL_law := inL 514 (by decide +kernel) rfl
theorem wSE_X2_watched : Cond.selects RX2 yX2_watched yX2_watched ∈ wsL_law := inL 515 (by decide +kernel) rfl
theorem wCO_X2_watched : Cond.code yX2_watched cX2_watched 11 (some .int) ∈ wsL_law := inL 516 (by decide +kernel) rfl
theorem wML_RL_133 : Cond.methodLink RL 133 yX4_tell ∈ wsL_law := inL 517 (by decide +kernel) rfl
theorem wIM_X4_tell : Cond.instanceMethod yX4_tell ∈ wsL_law := inL 518 (by decide +kernel) rfl
theorem wSE_X4_tell : Cond.selects RX4 yX4_tell yX4_tell ∈ wsL_law := inL 519 (by decide +kernel) rfl
theorem wCO_X4_tell : Cond.code yX4_tell cX4_tell 2 (some .int) ∈ wsL_law := inL 520 (by decide +kernel) rfl
theorem wML_RX4_272 : Cond.methodLink RX4 272 yX4_leave ∈ wsL_law := inL 521 (by decide +kernel) rfl
theorem wIM_X4_leave : Cond.instanceMethod yX4_leave ∈ wsL_law := inL 523 (by decide +kernel) rfl
theorem wCO_X4_leave : Cond.code yX4_leave cX4_leave 2 none ∈ wsL_law := inL 524 (by decide +kernel) rfl
theorem wML_RX4_275 : Cond.methodLink RX4 275 yX4_tellTicket ∈ wsL_law := inL 525 (by decide +kernel) rfl
theorem wIM_X4_tellTicket : Cond.instanceMethod yX4_tellTicket ∈ wsL_law := inL 527 (by decide +kernel) rfl
theorem wCO_X4_tellTicket : Cond.code yX4_tellTicket cX4_tellTicket 2 (some .int) ∈ wsL_law := inL 528 (by decide +kernel) rfl
theorem wML_RL_137 : Cond.methodLink RL 137 yX4_worth ∈ wsL_law := inL 529 (by decide +kernel) rfl
theorem wIM_X4_worth : Cond.instanceMethod yX4_worth ∈ wsL_law := inL 530 (by decide +kernel) rfl
theorem wSE_X4_worth : Cond.selects RX4 yX4_worth yX4_worth ∈ wsL_law := inL 531 (by decide +kernel) rfl
theorem wCO_X4_worth : Cond.code yX4_worth cX4_worth 2 (some .int) ∈ wsL_law := inL 532 (by decide +kernel) rfl
theorem wKL_RX4_279 : Cond.constantLong RX4 279 (2147483647) ∈ wsL_law := inL 533 (by decide +kernel) rfl
theorem wML_RL_141 : Cond.methodLink RL 141 yX4_as ∈ wsL_law := inL 534 (by decide +kernel) rfl
theorem wIM_X4_as : Cond.instanceMethod yX4_as ∈ wsL_law := inL 535 (by decide +kernel) rfl
theorem wSE_X4_as : Cond.selects RX4 yX4_as yX4_as ∈ wsL_law := inL 536 (by decide +kernel) rfl
theorem wCO_X4_as : Cond.code yX4_as cX4_as 3 (some .int) ∈ wsL_law := inL 537 (by decide +kernel) rfl
theorem wML_RL_145 : Cond.methodLink RL 145 yX4_trace ∈ wsL_law := inL 538 (by decide +kernel) rfl
theorem wIM_X4_trace : Cond.instanceMethod yX4_trace ∈ wsL_law := inL 539 (by decide +kernel) rfl
theorem wSE_X4_trace : Cond.selects RX4 yX4_trace yX4_trace ∈ wsL_law := inL 540 (by decide +kernel) rfl
theorem wCO_X4_trace : Cond.code yX4_trace cX4_trace 1 (some .int) ∈ wsL_law := inL 541 (by decide +kernel) rfl
theorem wML_RL_150 : Cond.methodLink RL 150 yX4_fault ∈ wsL_law := inL 542 (by decide +kernel) rfl
theorem wIM_X4_fault : Cond.instanceMethod yX4_fault ∈ wsL_law := inL 543 (by decide +kernel) rfl
theorem wSE_X4_fault : Cond.selects RX4 yX4_fault yX4_fault ∈ wsL_law := inL 544 (by decide +kernel) rfl
theorem wCO_X4_fault : Cond.code yX4_fault cX4_fault 1 (some .int) ∈ wsL_law := inL 545 (by decide +kernel) rfl
theorem wML_RL_154 : Cond.methodLink RL 154 yX4_told ∈ wsL_law := inL 546 (by decide +kernel) rfl
theorem wIM_X4_told : Cond.instanceMethod yX4_told ∈ wsL_law := inL 547 (by decide +kernel) rfl
theorem wSE_X4_told : Cond.selects RX4 yX4_told yX4_told ∈ wsL_law := inL 548 (by decide +kernel) rfl
theorem wCO_X4_told : Cond.code yX4_told cX4_told 2 (some .int) ∈ wsL_law := inL 549 (by decide +kernel) rfl
theorem wML_RX4_281 : Cond.methodLink RX4 281 yX4_countNotReplaced ∈ wsL_law := inL 550 (by decide +kernel) rfl
theorem wIM_X4_countNotReplaced : Cond.instanceMethod yX4_countNotReplaced ∈ wsL_law := inL 552 (by decide +kernel) rfl
theorem wCO_X4_countNotReplaced : Cond.code yX4_countNotReplaced cX4_countNotReplaced 3 (some .int) ∈ wsL_law := inL 553 (by decide +kernel) rfl
theorem wCL_RL_10 : Cond.classLink RL 10 RX5 ∈ wsL_law := inL 554 (by decide +kernel) rfl
theorem wIS_RX5 : Cond.instantiable RX5 33 ∈ wsL_law := inL 555 (by decide +kernel) rfl
theorem wML_RL_12 : Cond.methodLink RL 12 yX5_init ∈ wsL_law := inL 556 (by decide +kernel) rfl
theorem wIM_X5_init : Cond.instanceMethod yX5_init ∈ wsL_law := inL 557 (by decide +kernel) rfl
theorem wCO_X5_init : Cond.code yX5_init cX5_init 2 none ∈ wsL_law := inL 558 (by decide +kernel) rfl
theorem wML_RX5_1 : Cond.methodLink RX5 1 objectInit ∈ wsL_law := inL 559 (by decide +kernel) rfl
theorem wFL_RX5_89 : Cond.fieldLink RX5 89 "TrueLitresModel" "fault" "I" ∈ wsL_law := inL 560 (by decide +kernel) rfl
theorem wFL_RX5_98 : Cond.fieldLink RX5 98 "TrueLitresModel" "meters" "I" ∈ wsL_law := inL 561 (by decide +kernel) rfl
theorem wFL_RX5_7 : Cond.fieldLink RX5 7 "TrueLitresModel" "pulsesOf" "[I" ∈ wsL_law := inL 562 (by decide +kernel) rfl
theorem wFL_RX5_13 : Cond.fieldLink RX5 13 "TrueLitresModel" "many" "[I" ∈ wsL_law := inL 563 (by decide +kernel) rfl
theorem wFL_RX5_16 : Cond.fieldLink RX5 16 "TrueLitresModel" "flowAt" "[I" ∈ wsL_law := inL 564 (by decide +kernel) rfl
theorem wFL_RX5_19 : Cond.fieldLink RX5 19 "TrueLitresModel" "dayAt" "[I" ∈ wsL_law := inL 565 (by decide +kernel) rfl
theorem wFL_RX5_22 : Cond.fieldLink RX5 22 "TrueLitresModel" "numberAt" "[I" ∈ wsL_law := inL 566 (by decide +kernel) rfl
theorem wFL_RX5_25 : Cond.fieldLink RX5 25 "TrueLitresModel" "ends" "[I" ∈ wsL_law := inL 567 (by decide +kernel) rfl
theorem wFL_RX5_133 : Cond.fieldLink RX5 133 "TrueLitresModel" "points" "I" ∈ wsL_law := inL 568 (by decide +kernel) rfl
theorem wFL_RX5_28 : Cond.fieldLink RX5 28 "TrueLitresModel" "curveFlow" "[I" ∈ wsL_law := inL 569 (by decide +kernel) rfl
theorem wFL_RX5_31 : Cond.fieldLink RX5 31 "TrueLitresModel" "curveNumber" "[I" ∈ wsL_law := inL 570 (by decide +kernel) rfl
theorem wFL_RX5_34 : Cond.fieldLink RX5 34 "TrueLitresModel" "curveDay" "[I" ∈ wsL_law := inL 571 (by decide +kernel) rfl
theorem wFL_RX5_84 : Cond.fieldLink RX5 84 "TrueLitresModel" "proofMeter" "I" ∈ wsL_law := inL 572 (by decide +kernel) rfl
theorem wFL_RX5_153 : Cond.fieldLink RX5 153 "TrueLitresModel" "proofFlow" "I" ∈ wsL_law := inL 573 (by decide +kernel) rfl
theorem wFL_RX5_156 : Cond.fieldLink RX5 156 "TrueLitresModel" "vessel" "I" ∈ wsL_law := inL 574 (by decide +kernel) rfl
theorem wFL_RX5_159 : Cond.fieldLink RX5 159 "TrueLitresModel" "runs" "I" ∈ wsL_law := inL 575 (by decide +kernel) rfl
theorem wFL_RX5_37 : Cond.fieldLink RX5 37 "TrueLitresModel" "count" "[J" ∈ wsL_law := inL 576 (by decide +kernel) rfl
theorem wFL_RX5_176 : Cond.fieldLink RX5 176 "TrueLitresModel" "tickets" "I" ∈ wsL_law := inL 577 (by decide +kernel) rfl
theorem wFL_RX5_41 : Cond.fieldLink RX5 41 "TrueLitresModel" "kind" "[I" ∈ wsL_law := inL 578 (by decide +kernel) rfl
theorem wFL_RX5_44 : Cond.fieldLink RX5 44 "TrueLitresModel" "meterOf" "[I" ∈ wsL_law := inL 579 (by decide +kernel) rfl
theorem wFL_RX5_47 : Cond.fieldLink RX5 47 "TrueLitresModel" "day" "[I" ∈ wsL_law := inL 580 (by decide +kernel) rfl
theorem wFL_RX5_50 : Cond.fieldLink RX5 50 "TrueLitresModel" "pulses" "[I" ∈ wsL_law := inL 581 (by decide +kernel) rfl
theorem wFL_RX5_53 : Cond.fieldLink RX5 53 "TrueLitresModel" "flow" "[I" ∈ wsL_law := inL 582 (by decide +kernel) rfl
theorem wFL_RX5_56 : Cond.fieldLink RX5 56 "TrueLitresModel" "factor" "[I" ∈ wsL_law := inL 583 (by decide +kernel) rfl
theorem wFL_RX5_59 : Cond.fieldLink RX5 59 "TrueLitresModel" "by" "[I" ∈ wsL_law := inL 584 (by decide +kernel) rfl
theorem wFL_RX5_62 : Cond.fieldLink RX5 62 "TrueLitresModel" "old" "[I" ∈ wsL_law := inL 585 (by decide +kernel) rfl
theorem wFL_RX5_80 : Cond.fieldLink RX5 80 "TrueLitresModel" "shut" "I" ∈ wsL_law := inL 586 (by decide +kernel) rfl
theorem wFL_RX5_65 : Cond.fieldLink RX5 65 "TrueLitresModel" "how" "[I" ∈ wsL_law := inL 587 (by decide +kernel) rfl
theorem wFL_RX5_68 : Cond.fieldLink RX5 68 "TrueLitresModel" "sheetSize" "[I" ∈ wsL_law := inL 588 (by decide +kernel) rfl
theorem wFL_RX5_71 : Cond.fieldLink RX5 71 "TrueLitresModel" "sheetLane" "[I" ∈ wsL_law := inL 589 (by decide +kernel) rfl
theorem wFL_RX5_74 : Cond.fieldLink RX5 74 "TrueLitresModel" "sheet" "[I" ∈ wsL_law := inL 590 (by decide +kernel) rfl
theorem wFL_RX5_77 : Cond.fieldLink RX5 77 "TrueLitresModel" "hands" "[I" ∈ wsL_law := inL 591 (by decide +kernel) rfl
theorem wFL_RX5_250 : Cond.fieldLink RX5 250 "TrueLitresModel" "trace" "I" ∈ wsL_law := inL 592 (by decide +kernel) rfl
theorem wML_RL_17 : Cond.methodLink RL 17 yX5_meter ∈ wsL_law := inL 660 (by decide +kernel) rfl
theorem wIM_X5_meter : Cond.instanceMethod yX5_meter ∈ wsL_law := inL 661 (by decide +kernel) rfl
theorem wSE_X5_meter : Cond.selects RX5 yX5_meter yX5_meter ∈ wsL_law := inL 662 (by decide +kernel) rfl
theorem wCO_X5_meter : Cond.code yX5_meter cX5_meter 2 (some .int) ∈ wsL_law := inL 663 (by decide +kernel) rfl
theorem wKL_RX5_113 : Cond.constantLong RX5 113 (100000) ∈ wsL_law := inL 664 (by decide +kernel) rfl
theorem wML_RX5_101 : Cond.methodLink RX5 101 yX5_in ∈ wsL_law := inL 665 (by decide +kernel) rfl
theorem wST_X5_in : Cond.static yX5_in ∈ wsL_law := inL 666 (by decide +kernel) rfl
theorem wCO_X5_in : Cond.code yX5_in cX5_in 6 (some .boolean) ∈ wsL_law := inL 667 (by decide +kernel) rfl
theorem wML_RL_22 : Cond.methodLink RL 22 yX5_factor ∈ wsL_law := inL 668 (by decide +kernel) rfl
theorem wIM_X5_factor : Cond.instanceMethod yX5_factor ∈ wsL_law := inL 669 (by decide +kernel) rfl
theorem wSE_X5_factor : Cond.selects RX5 yX5_factor yX5_factor ∈ wsL_law := inL 670 (by decide +kernel) rfl
theorem wCO_X5_factor : Cond.code yX5_factor cX5_factor 5 (some .int) ∈ wsL_law := inL 671 (by decide +kernel) rfl
theorem wML_RX5_115 : Cond.methodLink RX5 115 yX5_noMeter ∈ wsL_law := inL 672 (by decide +kernel) rfl
theorem wIM_X5_noMeter : Cond.instanceMethod yX5_noMeter ∈ wsL_law := inL 674 (by decide +kernel) rfl
theorem wCO_X5_noMeter : Cond.code yX5_noMeter cX5_noMeter 2 (some .boolean) ∈ wsL_law := inL 675 (by decide +kernel) rfl
theorem wML_RX5_119 : Cond.methodLink RX5 119 yX5_isFlow ∈ wsL_law := inL 676 (by decide +kernel) rfl
theorem wST_X5_isFlow : Cond.static yX5_isFlow ∈ wsL_law := inL 677 (by decide +kernel) rfl
theorem wCO_X5_isFlow : Cond.code yX5_isFlow cX5_isFlow 1 (some .boolean) ∈ wsL_law := inL 678 (by decide +kernel) rfl
theorem wKL_RX5_107 : Cond.constantLong RX5 107 (10000) ∈ wsL_law := inL 679 (by decide +kernel) rfl
theorem wML_RX5_122 : Cond.methodLink RX5 122 yX5_isDay ∈ wsL_law := inL 680 (by decide +kernel) rfl
theorem wST_X5_isDay : Cond.static yX5_isDay ∈ wsL_law := inL 681 (by decide +kernel) rfl
theorem wCO_X5_isDay : Cond.code yX5_isDay cX5_isDay 1 (some .boolean) ∈ wsL_law := inL 682 (by decide +kernel) rfl
theorem wKL_RX5_105 : Cond.constantLong RX5 105 (400) ∈ wsL_law := inL 683 (by decide +kernel) rfl
theorem wML_RX5_125 : Cond.methodLink RX5 125 yX5_isNumber ∈ wsL_law := inL 684 (by decide +kernel) rfl
theorem wST_X5_isNumber : Cond.static yX5_isNumber ∈ wsL_law := inL 685 (by decide +kernel) rfl
theorem wCO_X5_isNumber : Cond.code yX5_isNumber cX5_isNumber 2 (some .boolean) ∈ wsL_law := inL 686 (by decide +kernel) rfl
theorem wKL_RX5_109 : Cond.constantLong RX5 109 (95000) ∈ wsL_law := inL 687 (by decide +kernel) rfl
theorem wKL_RX5_111 : Cond.constantLong RX5 111 (105000) ∈ wsL_law := inL 688 (by decide +kernel) rfl
theorem wML_RX5_129 : Cond.methodLink RX5 129 yX5_addFactor ∈ wsL_law := inL 689 (by decide +kernel) rfl
theorem wIM_X5_addFactor : Cond.instanceMethod yX5_addFactor ∈ wsL_law := inL 691 (by decide +kernel) rfl
theorem wCO_X5_addFactor : Cond.code yX5_addFactor cX5_addFactor 6 none ∈ wsL_law := inL 692 (by decide +kernel) rfl
theorem wML_RL_27 : Cond.methodLink RL 27 yX5_at ∈ wsL_law := inL 693 (by decide +kernel) rfl
theorem wIM_X5_at : Cond.instanceMethod yX5_at ∈ wsL_law := inL 694 (by decide +kernel) rfl
theorem wSE_X5_at : Cond.selects RX5 yX5_at yX5_at ∈ wsL_law := inL 695 (by decide +kernel) rfl
theorem wCO_X5_at : Cond.code yX5_at cX5_at 4 (some .int) ∈ wsL_law := inL 696 (by decide +kernel) rfl
theorem wML_RX5_145 : Cond.methodLink RX5 145 yX5_factorAt ∈ wsL_law := inL 697 (by decide +kernel) rfl
theorem wIM_X5_factorAt : Cond.instanceMethod yX5_factorAt ∈ wsL_law := inL 699 (by decide +kernel) rfl
theorem wCO_X5_factorAt : Cond.code yX5_factorAt cX5_factorAt 9 (some .int) ∈ wsL_law := inL 700 (by decide +kernel) rfl
theorem wML_RX5_140 : Cond.methodLink RX5 140 yX5_findCurve ∈ wsL_law := inL 701 (by decide +kernel) rfl
theorem wIM_X5_findCurve : Cond.instanceMethod yX5_findCurve ∈ wsL_law := inL 703 (by decide +kernel) rfl
theorem wCO_X5_findCurve : Cond.code yX5_findCurve cX5_findCurve 4 none ∈ wsL_law := inL 704 (by decide +kernel) rfl
theorem wML_RX5_136 : Cond.methodLink RX5 136 yX5_addPoint ∈ wsL_law := inL 705 (by decide +kernel) rfl
theorem wIM_X5_addPoint : Cond.instanceMethod yX5_addPoint ∈ wsL_law := inL 707 (by decide +kernel) rfl
theorem wCO_X5_addPoint : Cond.code yX5_addPoint cX5_addPoint 5 none ∈ wsL_law := inL 708 (by decide +kernel) rfl
theorem wKI_RX5_144 : Cond.constant RX5 144 (100000) ∈ wsL_law := inL 709 (by decide +kernel) rfl
theorem wML_RL_32 : Cond.methodLink RL 32 yX5_points ∈ wsL_law := inL 710 (by decide +kernel) rfl
theorem wIM_X5_points : Cond.instanceMethod yX5_points ∈ wsL_law := inL 711 (by decide +kernel) rfl
theorem wSE_X5_points : Cond.selects RX5 yX5_points yX5_points ∈ wsL_law := inL 712 (by decide +kernel) rfl
theorem wCO_X5_points : Cond.code yX5_points cX5_points 3 (some .int) ∈ wsL_law := inL 713 (by decide +kernel) rfl
theorem wML_RL_36 : Cond.methodLink RL 36 yX5_point ∈ wsL_law := inL 714 (by decide +kernel) rfl
theorem wIM_X5_point : Cond.instanceMethod yX5_point ∈ wsL_law := inL 715 (by decide +kernel) rfl
theorem wSE_X5_point : Cond.selects RX5 yX5_point yX5_point ∈ wsL_law := inL 716 (by decide +kernel) rfl
theorem wCO_X5_point : Cond.code yX5_point cX5_point 5 (some .int) ∈ wsL_law := inL 717 (by decide +kernel) rfl
theorem wML_RL_40 : Cond.methodLink RL 40 yX5_proof ∈ wsL_law := inL 718 (by decide +kernel) rfl
theorem wIM_X5_proof : Cond.instanceMethod yX5_proof ∈ wsL_law := inL 719 (by decide +kernel) rfl
theorem wSE_X5_proof : Cond.selects RX5 yX5_proof yX5_proof ∈ wsL_law := inL 720 (by decide +kernel) rfl
theorem wCO_X5_proof : Cond.code yX5_proof cX5_proof 4 (some .int) ∈ wsL_law := inL 721 (by decide +kernel) rfl
theorem wKL_RX5_149 : Cond.constantLong RX5 149 (1000) ∈ wsL_law := inL 722 (by decide +kernel) rfl
theorem wKL_RX5_151 : Cond.constantLong RX5 151 (1000000) ∈ wsL_law := inL 723 (by decide +kernel) rfl
theorem wML_RL_45 : Cond.methodLink RL 45 yX5_run ∈ wsL_law := inL 724 (by decide +kernel) rfl
theorem wIM_X5_run : Cond.instanceMethod yX5_run ∈ wsL_law := inL 725 (by decide +kernel) rfl
theorem wSE_X5_run : Cond.selects RX5 yX5_run yX5_run ∈ wsL_law := inL 726 (by decide +kernel) rfl
theorem wCO_X5_run : Cond.code yX5_run cX5_run 4 (some .long) ∈ wsL_law := inL 727 (by decide +kernel) rfl
theorem wML_RX5_92 : Cond.methodLink RX5 92 yX5_lost ∈ wsL_law := inL 728 (by decide +kernel) rfl
theorem wST_X5_lost : Cond.static yX5_lost ∈ wsL_law := inL 729 (by decide +kernel) rfl
theorem wCO_X5_lost : Cond.code yX5_lost cX5_lost 0 (some .long) ∈ wsL_law := inL 730 (by decide +kernel) rfl
theorem wKL_RX5_87 : Cond.constantLong RX5 87 (-9223372036854775808) ∈ wsL_law := inL 731 (by decide +kernel) rfl
theorem wML_RL_49 : Cond.methodLink RL 49 yX5_proving ∈ wsL_law := inL 732 (by decide +kernel) rfl
theorem wIM_X5_proving : Cond.instanceMethod yX5_proving ∈ wsL_law := inL 733 (by decide +kernel) rfl
theorem wSE_X5_proving : Cond.selects RX5 yX5_proving yX5_proving ∈ wsL_law := inL 734 (by decide +kernel) rfl
theorem wCO_X5_proving : Cond.code yX5_proving cX5_proving 2 (some .int) ∈ wsL_law := inL 735 (by decide +kernel) rfl
theorem wKL_RX5_164 : Cond.constantLong RX5 164 (3) ∈ wsL_law := inL 736 (by decide +kernel) rfl
theorem wML_RX5_166 : Cond.methodLink RX5 166 yX5_isGood ∈ wsL_law := inL 737 (by decide +kernel) rfl
theorem wIM_X5_isGood : Cond.instanceMethod yX5_isGood ∈ wsL_law := inL 739 (by decide +kernel) rfl
theorem wCO_X5_isGood : Cond.code yX5_isGood cX5_isGood 6 (some .boolean) ∈ wsL_law := inL 740 (by decide +kernel) rfl
theorem wKL_RX5_162 : Cond.constantLong RX5 162 (2000) ∈ wsL_law := inL 741 (by decide +kernel) rfl
theorem wML_RL_53 : Cond.methodLink RL 53 yX5_accept ∈ wsL_law := inL 742 (by decide +kernel) rfl
theorem wIM_X5_accept : Cond.instanceMethod yX5_accept ∈ wsL_law := inL 743 (by decide +kernel) rfl
theorem wSE_X5_accept : Cond.selects RX5 yX5_accept yX5_accept ∈ wsL_law := inL 744 (by decide +kernel) rfl
theorem wCO_X5_accept : Cond.code yX5_accept cX5_accept 6 (some .int) ∈ wsL_law := inL 745 (by decide +kernel) rfl
theorem wKL_RX5_170 : Cond.constantLong RX5 170 (500) ∈ wsL_law := inL 746 (by decide +kernel) rfl
theorem wML_RX5_172 : Cond.methodLink RX5 172 yX5_rounded ∈ wsL_law := inL 747 (by decide +kernel) rfl
theorem wST_X5_rounded : Cond.static yX5_rounded ∈ wsL_law := inL 748 (by decide +kernel) rfl
theorem wCO_X5_rounded : Cond.code yX5_rounded cX5_rounded 4 (some .long) ∈ wsL_law := inL 749 (by decide +kernel) rfl
theorem wKL_RX5_96 : Cond.constantLong RX5 96 (2) ∈ wsL_law := inL 750 (by decide +kernel) rfl
theorem wML_RL_57 : Cond.methodLink RL 57 yX5_ticket ∈ wsL_law := inL 751 (by decide +kernel) rfl
theorem wIM_X5_ticket : Cond.instanceMethod yX5_ticket ∈ wsL_law := inL 752 (by decide +kernel) rfl
theorem wSE_X5_ticket : Cond.selects RX5 yX5_ticket yX5_ticket ∈ wsL_law := inL 753 (by decide +kernel) rfl
theorem wCO_X5_ticket : Cond.code yX5_ticket cX5_ticket 5 (some .int) ∈ wsL_law := inL 754 (by decide +kernel) rfl
theorem wKL_RX5_179 : Cond.constantLong RX5 179 (10000000) ∈ wsL_law := inL 755 (by decide +kernel) rfl
theorem wML_RX5_181 : Cond.methodLink RX5 181 yX5_isShut ∈ wsL_law := inL 756 (by decide +kernel) rfl
theorem wIM_X5_isShut : Cond.instanceMethod yX5_isShut ∈ wsL_law := inL 758 (by decide +kernel) rfl
theorem wCO_X5_isShut : Cond.code yX5_isShut cX5_isShut 2 (some .boolean) ∈ wsL_law := inL 759 (by decide +kernel) rfl
theorem wML_RX5_184 : Cond.methodLink RX5 184 yX5_add ∈ wsL_law := inL 760 (by decide +kernel) rfl
theorem wIM_X5_add : Cond.instanceMethod yX5_add ∈ wsL_law := inL 762 (by decide +kernel) rfl
theorem wCO_X5_add : Cond.code yX5_add cX5_add 7 (some .int) ∈ wsL_law := inL 763 (by decide +kernel) rfl
theorem wML_RL_61 : Cond.methodLink RL 61 yX5_right ∈ wsL_law := inL 764 (by decide +kernel) rfl
theorem wIM_X5_right : Cond.instanceMethod yX5_right ∈ wsL_law := inL 765 (by decide +kernel) rfl
theorem wSE_X5_right : Cond.selects RX5 yX5_right yX5_right ∈ wsL_law := inL 766 (by decide +kernel) rfl
theorem wCO_X5_right : Cond.code yX5_right cX5_right 3 (some .int) ∈ wsL_law := inL 767 (by decide +kernel) rfl
theorem wML_RX5_188 : Cond.methodLink RX5 188 yX5_noTicket ∈ wsL_law := inL 768 (by decide +kernel) rfl
theorem wIM_X5_noTicket : Cond.instanceMethod yX5_noTicket ∈ wsL_law := inL 770 (by decide +kernel) rfl
theorem wCO_X5_noTicket : Cond.code yX5_noTicket cX5_noTicket 2 (some .boolean) ∈ wsL_law := inL 771 (by decide +kernel) rfl
theorem wML_RL_65 : Cond.methodLink RL 65 yX5_remake ∈ wsL_law := inL 772 (by decide +kernel) rfl
theorem wIM_X5_remake : Cond.instanceMethod yX5_remake ∈ wsL_law := inL 773 (by decide +kernel) rfl
theorem wSE_X5_remake : Cond.selects RX5 yX5_remake yX5_remake ∈ wsL_law := inL 774 (by decide +kernel) rfl
theorem wCO_X5_remake : Cond.code yX5_remake cX5_remake 8 (some .int) ∈ wsL_law := inL 775 (by decide +kernel) rfl
theorem wML_RX5_191 : Cond.methodLink RX5 191 yX5_areDays ∈ wsL_law := inL 776 (by decide +kernel) rfl
theorem wST_X5_areDays : Cond.static yX5_areDays ∈ wsL_law := inL 777 (by decide +kernel) rfl
theorem wCO_X5_areDays : Cond.code yX5_areDays cX5_areDays 2 (some .boolean) ∈ wsL_law := inL 778 (by decide +kernel) rfl
theorem wML_RX5_195 : Cond.methodLink RX5 195 yX5_isStale ∈ wsL_law := inL 779 (by decide +kernel) rfl
theorem wIM_X5_isStale : Cond.instanceMethod yX5_isStale ∈ wsL_law := inL 781 (by decide +kernel) rfl
theorem wCO_X5_isStale : Cond.code yX5_isStale cX5_isStale 5 (some .boolean) ∈ wsL_law := inL 782 (by decide +kernel) rfl
theorem wML_RL_69 : Cond.methodLink RL 69 yX5_ticketed ∈ wsL_law := inL 783 (by decide +kernel) rfl
theorem wIM_X5_ticketed : Cond.instanceMethod yX5_ticketed ∈ wsL_law := inL 784 (by decide +kernel) rfl
theorem wSE_X5_ticketed : Cond.selects RX5 yX5_ticketed yX5_ticketed ∈ wsL_law := inL 785 (by decide +kernel) rfl
theorem wCO_X5_ticketed : Cond.code yX5_ticketed cX5_ticketed 3 (some .int) ∈ wsL_law := inL 786 (by decide +kernel) rfl
theorem wML_RL_74 : Cond.methodLink RL 74 yX5_volume ∈ wsL_law := inL 787 (by decide +kernel) rfl
theorem wIM_X5_volume : Cond.instanceMethod yX5_volume ∈ wsL_law := inL 788 (by decide +kernel) rfl
theorem wSE_X5_volume : Cond.selects RX5 yX5_volume yX5_volume ∈ wsL_law := inL 789 (by decide +kernel) rfl
theorem wCO_X5_volume : Cond.code yX5_volume cX5_volume 2 (some .long) ∈ wsL_law := inL 790 (by decide +kernel) rfl
theorem wML_RX5_201 : Cond.methodLink RX5 201 yX5_volumeOf ∈ wsL_law := inL 791 (by decide +kernel) rfl
theorem wIM_X5_volumeOf : Cond.instanceMethod yX5_volumeOf ∈ wsL_law := inL 793 (by decide +kernel) rfl
theorem wCO_X5_volumeOf : Cond.code yX5_volumeOf cX5_volumeOf 2 (some .long) ∈ wsL_law := inL 794 (by decide +kernel) rfl
theorem wKL_RX5_199 : Cond.constantLong RX5 199 (10) ∈ wsL_law := inL 795 (by decide +kernel) rfl
theorem wML_RL_78 : Cond.methodLink RL 78 yX5_sum ∈ wsL_law := inL 796 (by decide +kernel) rfl
theorem wIM_X5_sum : Cond.instanceMethod yX5_sum ∈ wsL_law := inL 797 (by decide +kernel) rfl
theorem wSE_X5_sum : Cond.selects RX5 yX5_sum yX5_sum ∈ wsL_law := inL 798 (by decide +kernel) rfl
theorem wCO_X5_sum : Cond.code yX5_sum cX5_sum 4 (some .long) ∈ wsL_law := inL 799 (by decide +kernel) rfl
theorem wML_RX5_205 : Cond.methodLink RX5 205 yX5_sumOf ∈ wsL_law := inL 800 (by decide +kernel) rfl
theorem wIM_X5_sumOf : Cond.instanceMethod yX5_sumOf ∈ wsL_law := inL 802 (by decide +kernel) rfl
theorem wCO_X5_sumOf : Cond.code yX5_sumOf cX5_sumOf 7 (some .long) ∈ wsL_law := inL 803 (by decide +kernel) rfl
theorem wML_RL_82 : Cond.methodLink RL 82 yX5_shut ∈ wsL_law := inL 804 (by decide +kernel) rfl
theorem wIM_X5_shut : Cond.instanceMethod yX5_shut ∈ wsL_law := inL 805 (by decide +kernel) rfl
theorem wSE_X5_shut : Cond.selects RX5 yX5_shut yX5_shut ∈ wsL_law := inL 806 (by decide +kernel) rfl
theorem wCO_X5_shut : Cond.code yX5_shut cX5_shut 3 (some .int) ∈ wsL_law := inL 807 (by decide +kernel) rfl
theorem wML_RL_86 : Cond.methodLink RL 86 yX5_line ∈ wsL_law := inL 808 (by decide +kernel) rfl
theorem wIM_X5_line : Cond.instanceMethod yX5_line ∈ wsL_law := inL 809 (by decide +kernel) rfl
theorem wSE_X5_line : Cond.selects RX5 yX5_line yX5_line ∈ wsL_law := inL 810 (by decide +kernel) rfl
theorem wCO_X5_line : Cond.code yX5_line cX5_line 5 (some .int) ∈ wsL_law := inL 811 (by decide +kernel) rfl
theorem wML_RX5_209 : Cond.methodLink RX5 209 yX5_noLine ∈ wsL_law := inL 812 (by decide +kernel) rfl
theorem wST_X5_noLine : Cond.static yX5_noLine ∈ wsL_law := inL 813 (by decide +kernel) rfl
theorem wCO_X5_noLine : Cond.code yX5_noLine cX5_noLine 1 (some .boolean) ∈ wsL_law := inL 814 (by decide +kernel) rfl
theorem wKL_RX5_212 : Cond.constantLong RX5 212 (-1) ∈ wsL_law := inL 815 (by decide +kernel) rfl
theorem wML_RL_90 : Cond.methodLink RL 90 yX5_lined ∈ wsL_law := inL 816 (by decide +kernel) rfl
theorem wIM_X5_lined : Cond.instanceMethod yX5_lined ∈ wsL_law := inL 817 (by decide +kernel) rfl
theorem wSE_X5_lined : Cond.selects RX5 yX5_lined yX5_lined ∈ wsL_law := inL 818 (by decide +kernel) rfl
theorem wCO_X5_lined : Cond.code yX5_lined cX5_lined 3 (some .int) ∈ wsL_law := inL 819 (by decide +kernel) rfl
theorem wML_RL_94 : Cond.methodLink RL 94 yX5_end ∈ wsL_law := inL 820 (by decide +kernel) rfl
theorem wIM_X5_end : Cond.instanceMethod yX5_end ∈ wsL_law := inL 821 (by decide +kernel) rfl
theorem wSE_X5_end : Cond.selects RX5 yX5_end yX5_end ∈ wsL_law := inL 822 (by decide +kernel) rfl
theorem wCO_X5_end : Cond.code yX5_end cX5_end 4 (some .int) ∈ wsL_law := inL 823 (by decide +kernel) rfl
theorem wKL_RX5_214 : Cond.constantLong RX5 214 (5000) ∈ wsL_law := inL 824 (by decide +kernel) rfl
theorem wML_RL_99 : Cond.methodLink RL 99 yX5_balance ∈ wsL_law := inL 825 (by decide +kernel) rfl
theorem wIM_X5_balance : Cond.instanceMethod yX5_balance ∈ wsL_law := inL 826 (by decide +kernel) rfl
theorem wSE_X5_balance : Cond.selects RX5 yX5_balance yX5_balance ∈ wsL_law := inL 827 (by decide +kernel) rfl
theorem wCO_X5_balance : Cond.code yX5_balance cX5_balance 5 (some .long) ∈ wsL_law := inL 828 (by decide +kernel) rfl
theorem wML_RX5_216 : Cond.methodLink RX5 216 yX5_imbalance ∈ wsL_law := inL 829 (by decide +kernel) rfl
theorem wIM_X5_imbalance : Cond.instanceMethod yX5_imbalance ∈ wsL_law := inL 831 (by decide +kernel) rfl
theorem wCO_X5_imbalance : Cond.code yX5_imbalance cX5_imbalance 7 (some .long) ∈ wsL_law := inL 832 (by decide +kernel) rfl
theorem wML_RX5_219 : Cond.methodLink RX5 219 yX5_endsOf ∈ wsL_law := inL 833 (by decide +kernel) rfl
theorem wIM_X5_endsOf : Cond.instanceMethod yX5_endsOf ∈ wsL_law := inL 835 (by decide +kernel) rfl
theorem wCO_X5_endsOf : Cond.code yX5_endsOf cX5_endsOf 7 (some .long) ∈ wsL_law := inL 836 (by decide +kernel) rfl
theorem wML_RL_103 : Cond.methodLink RL 103 yX5_beyond ∈ wsL_law := inL 837 (by decide +kernel) rfl
theorem wIM_X5_beyond : Cond.instanceMethod yX5_beyond ∈ wsL_law := inL 838 (by decide +kernel) rfl
theorem wSE_X5_beyond : Cond.selects RX5 yX5_beyond yX5_beyond ∈ wsL_law := inL 839 (by decide +kernel) rfl
theorem wCO_X5_beyond : Cond.code yX5_beyond cX5_beyond 3 (some .int) ∈ wsL_law := inL 840 (by decide +kernel) rfl
theorem wML_RX5_222 : Cond.methodLink RX5 222 yX5_beyondOf ∈ wsL_law := inL 841 (by decide +kernel) rfl
theorem wIM_X5_beyondOf : Cond.instanceMethod yX5_beyondOf ∈ wsL_law := inL 843 (by decide +kernel) rfl
theorem wCO_X5_beyondOf : Cond.code yX5_beyondOf cX5_beyondOf 7 (some .int) ∈ wsL_law := inL 844 (by decide +kernel) rfl
theorem wML_RL_107 : Cond.methodLink RL 107 yX5_explains ∈ wsL_law := inL 845 (by decide +kernel) rfl
theorem wIM_X5_explains : Cond.instanceMethod yX5_explains ∈ wsL_law := inL 846 (by decide +kernel) rfl
theorem wSE_X5_explains : Cond.selects RX5 yX5_explains yX5_explains ∈ wsL_law := inL 847 (by decide +kernel) rfl
theorem wCO_X5_explains : Cond.code yX5_explains cX5_explains 18 (some .long) ∈ wsL_law := inL 848 (by decide +kernel) rfl
theorem wKL_RX5_226 : Cond.constantLong RX5 226 (-4000000000000000000) ∈ wsL_law := inL 849 (by decide +kernel) rfl
theorem wKL_RX5_228 : Cond.constantLong RX5 228 (4000000000000000000) ∈ wsL_law := inL 850 (by decide +kernel) rfl
theorem wML_RL_111 : Cond.methodLink RL 111 yX5_sheet ∈ wsL_law := inL 851 (by decide +kernel) rfl
theorem wIM_X5_sheet : Cond.instanceMethod yX5_sheet ∈ wsL_law := inL 852 (by decide +kernel) rfl
theorem wSE_X5_sheet : Cond.selects RX5 yX5_sheet yX5_sheet ∈ wsL_law := inL 853 (by decide +kernel) rfl
theorem wCO_X5_sheet : Cond.code yX5_sheet cX5_sheet 5 (some .int) ∈ wsL_law := inL 854 (by decide +kernel) rfl
theorem wML_RX5_230 : Cond.methodLink RX5 230 yX5_noSheet ∈ wsL_law := inL 855 (by decide +kernel) rfl
theorem wST_X5_noSheet : Cond.static yX5_noSheet ∈ wsL_law := inL 856 (by decide +kernel) rfl
theorem wCO_X5_noSheet : Cond.code yX5_noSheet cX5_noSheet 1 (some .boolean) ∈ wsL_law := inL 857 (by decide +kernel) rfl
theorem wML_RX5_233 : Cond.methodLink RX5 233 yX5_refused ∈ wsL_law := inL 858 (by decide +kernel) rfl
theorem wIM_X5_refused : Cond.instanceMethod yX5_refused ∈ wsL_law := inL 860 (by decide +kernel) rfl
theorem wCO_X5_refused : Cond.code yX5_refused cX5_refused 2 (some .int) ∈ wsL_law := inL 861 (by decide +kernel) rfl
theorem wML_RX5_237 : Cond.methodLink RX5 237 yX5_failed ∈ wsL_law := inL 862 (by decide +kernel) rfl
theorem wIM_X5_failed : Cond.instanceMethod yX5_failed ∈ wsL_law := inL 864 (by decide +kernel) rfl
theorem wCO_X5_failed : Cond.code yX5_failed cX5_failed 2 (some .int) ∈ wsL_law := inL 865 (by decide +kernel) rfl
theorem wML_RL_115 : Cond.methodLink RL 115 yX5_lose ∈ wsL_law := inL 866 (by decide +kernel) rfl
theorem wIM_X5_lose : Cond.instanceMethod yX5_lose ∈ wsL_law := inL 867 (by decide +kernel) rfl
theorem wSE_X5_lose : Cond.selects RX5 yX5_lose yX5_lose ∈ wsL_law := inL 868 (by decide +kernel) rfl
theorem wCO_X5_lose : Cond.code yX5_lose cX5_lose 3 (some .int) ∈ wsL_law := inL 869 (by decide +kernel) rfl
theorem wML_RL_119 : Cond.methodLink RL 119 yX5_put ∈ wsL_law := inL 870 (by decide +kernel) rfl
theorem wIM_X5_put : Cond.instanceMethod yX5_put ∈ wsL_law := inL 871 (by decide +kernel) rfl
theorem wSE_X5_put : Cond.selects RX5 yX5_put yX5_put ∈ wsL_law := inL 872 (by decide +kernel) rfl
theorem wCO_X5_put : Cond.code yX5_put cX5_put 4 (some .int) ∈ wsL_law := inL 873 (by decide +kernel) rfl
theorem wML_RX5_240 : Cond.methodLink RX5 240 yX5_noCell ∈ wsL_law := inL 874 (by decide +kernel) rfl
theorem wIM_X5_noCell : Cond.instanceMethod yX5_noCell ∈ wsL_law := inL 876 (by decide +kernel) rfl
theorem wCO_X5_noCell : Cond.code yX5_noCell cX5_noCell 3 (some .int) ∈ wsL_law := inL 877 (by decide +kernel) rfl
theorem wML_RL_123 : Cond.methodLink RL 123 yX5_cell ∈ wsL_law := inL 878 (by decide +kernel) rfl
theorem wIM_X5_cell : Cond.instanceMethod yX5_cell ∈ wsL_law := inL 879 (by decide +kernel) rfl
theorem wSE_X5_cell : Cond.selects RX5 yX5_cell yX5_cell ∈ wsL_law := inL 880 (by decide +kernel) rfl
theorem wCO_X5_cell : Cond.code yX5_cell cX5_cell 4 (some .long) ∈ wsL_law := inL 881 (by decide +kernel) rfl
theorem wML_RX5_243 : Cond.methodLink RX5 243 yX5_failedLong ∈ wsL_law := inL 882 (by decide +kernel) rfl
theorem wIM_X5_failedLong : Cond.instanceMethod yX5_failedLong ∈ wsL_law := inL 884 (by decide +kernel) rfl
theorem wCO_X5_failedLong : Cond.code yX5_failedLong cX5_failedLong 2 (some .long) ∈ wsL_law := inL 885 (by decide +kernel) rfl
theorem wML_RL_128 : Cond.methodLink RL 128 yX5_copy ∈ wsL_law := inL 886 (by decide +kernel) rfl
theorem wIM_X5_copy : Cond.instanceMethod yX5_copy ∈ wsL_law := inL 887 (by decide +kernel) rfl
theorem wSE_X5_copy : Cond.selects RX5 yX5_copy yX5_copy ∈ wsL_law := inL 888 (by decide +kernel) rfl
theorem wCO_X5_copy : Cond.code yX5_copy cX5_copy 7 (some .int) ∈ wsL_law := inL 889 (by decide +kernel) rfl
theorem wML_RX5_246 : Cond.methodLink RX5 246 yX5_isBeyond ∈ wsL_law := inL 890 (by decide +kernel) rfl
theorem wST_X5_isBeyond : Cond.static yX5_isBeyond ∈ wsL_law := inL 891 (by decide +kernel) rfl
theorem wCO_X5_isBeyond : Cond.code yX5_isBeyond cX5_isBeyond 3 (some .boolean) ∈ wsL_law := inL 892 (by decide +kernel) rfl
theorem wML_RL_132 : Cond.methodLink RL 132 yX5_watch ∈ wsL_law := inL 893 (by decide +kernel) rfl
theorem wIM_X5_watch : Cond.instanceMethod yX5_watch ∈ wsL_law := inL 894 (by decide +kernel) rfl
theorem wSE_X5_watch : Cond.selects RX5 yX5_watch yX5_watch ∈ wsL_law := inL 895 (by decide +kernel) rfl
theorem wCO_X5_watch : Cond.code yX5_watch cX5_watch 14 (some .int) ∈ wsL_law := inL 896 (by decide +kernel) rfl
theorem wML_RL_136 : Cond.methodLink RL 136 yX5_tell ∈ wsL_law := inL 897 (by decide +kernel) rfl
theorem wIM_X5_tell : Cond.instanceMethod yX5_tell ∈ wsL_law := inL 898 (by decide +kernel) rfl
theorem wSE_X5_tell : Cond.selects RX5 yX5_tell yX5_tell ∈ wsL_law := inL 899 (by decide +kernel) rfl
theorem wCO_X5_tell : Cond.code yX5_tell cX5_tell 2 (some .int) ∈ wsL_law := inL 900 (by decide +kernel) rfl
theorem wML_RX5_253 : Cond.methodLink RX5 253 yX5_traced ∈ wsL_law := inL 901 (by decide +kernel) rfl
theorem wIM_X5_traced : Cond.instanceMethod yX5_traced ∈ wsL_law := inL 903 (by decide +kernel) rfl
theorem wCO_X5_traced : Cond.code yX5_traced cX5_traced 2 none ∈ wsL_law := inL 904 (by decide +kernel) rfl
theorem wML_RL_140 : Cond.methodLink RL 140 yX5_worth ∈ wsL_law := inL 905 (by decide +kernel) rfl
theorem wIM_X5_worth : Cond.instanceMethod yX5_worth ∈ wsL_law := inL 906 (by decide +kernel) rfl
theorem wSE_X5_worth : Cond.selects RX5 yX5_worth yX5_worth ∈ wsL_law := inL 907 (by decide +kernel) rfl
theorem wCO_X5_worth : Cond.code yX5_worth cX5_worth 4 (some .int) ∈ wsL_law := inL 908 (by decide +kernel) rfl
theorem wKL_RX5_256 : Cond.constantLong RX5 256 (2147483647) ∈ wsL_law := inL 909 (by decide +kernel) rfl
theorem wKI_RX5_258 : Cond.constant RX5 258 (2147483647) ∈ wsL_law := inL 910 (by decide +kernel) rfl
theorem wML_RL_144 : Cond.methodLink RL 144 yX5_as ∈ wsL_law := inL 911 (by decide +kernel) rfl
theorem wIM_X5_as : Cond.instanceMethod yX5_as ∈ wsL_law := inL 912 (by decide +kernel) rfl
theorem wSE_X5_as : Cond.selects RX5 yX5_as yX5_as ∈ wsL_law := inL 913 (by decide +kernel) rfl
theorem wCO_X5_as : Cond.code yX5_as cX5_as 3 (some .int) ∈ wsL_law := inL 914 (by decide +kernel) rfl
theorem wML_RL_149 : Cond.methodLink RL 149 yX5_trace ∈ wsL_law := inL 915 (by decide +kernel) rfl
theorem wIM_X5_trace : Cond.instanceMethod yX5_trace ∈ wsL_law := inL 916 (by decide +kernel) rfl
theorem wSE_X5_trace : Cond.selects RX5 yX5_trace yX5_trace ∈ wsL_law := inL 917 (by decide +kernel) rfl
theorem wCO_X5_trace : Cond.code yX5_trace cX5_trace 1 (some .int) ∈ wsL_law := inL 918 (by decide +kernel) rfl
theorem wML_RL_153 : Cond.methodLink RL 153 yX5_fault ∈ wsL_law := inL 919 (by decide +kernel) rfl
theorem wIM_X5_fault : Cond.instanceMethod yX5_fault ∈ wsL_law := inL 920 (by decide +kernel) rfl
theorem wSE_X5_fault : Cond.selects RX5 yX5_fault yX5_fault ∈ wsL_law := inL 921 (by decide +kernel) rfl
theorem wCO_X5_fault : Cond.code yX5_fault cX5_fault 1 (some .int) ∈ wsL_law := inL 922 (by decide +kernel) rfl
theorem wML_RL_157 : Cond.methodLink RL 157 yX5_told ∈ wsL_law := inL 923 (by decide +kernel) rfl
theorem wIM_X5_told : Cond.instanceMethod yX5_told ∈ wsL_law := inL 924 (by decide +kernel) rfl
theorem wSE_X5_told : Cond.selects RX5 yX5_told yX5_told ∈ wsL_law := inL 925 (by decide +kernel) rfl
theorem wCO_X5_told : Cond.code yX5_told cX5_told 4 (some .int) ∈ wsL_law := inL 926 (by decide +kernel) rfl
theorem wKL_RX5_259 : Cond.constantLong RX5 259 (9) ∈ wsL_law := inL 927 (by decide +kernel) rfl
theorem wSE_X4_isMeter : Cond.selects RX4 yX4_isMeter yX4_isMeter ∈ wsL_law := inL 0 (by decide +kernel) rfl
theorem wSE_X4_isShut : Cond.selects RX4 yX4_isShut yX4_isShut ∈ wsL_law := inL 1 (by decide +kernel) rfl
theorem wSE_X4_keep : Cond.selects RX4 yX4_keep yX4_keep ∈ wsL_law := inL 2 (by decide +kernel) rfl
theorem wSE_X4_isTicket : Cond.selects RX4 yX4_isTicket yX4_isTicket ∈ wsL_law := inL 3 (by decide +kernel) rfl
theorem wSE_X4_replace : Cond.selects RX4 yX4_replace yX4_replace ∈ wsL_law := inL 4 (by decide +kernel) rfl
theorem wSE_X4_factorNow : Cond.selects RX4 yX4_factorNow yX4_factorNow ∈ wsL_law := inL 5 (by decide +kernel) rfl
theorem wSE_X4_isToRemake : Cond.selects RX4 yX4_isToRemake yX4_isToRemake ∈ wsL_law := inL 6 (by decide +kernel) rfl
theorem wSE_X4_volumeOf : Cond.selects RX4 yX4_volumeOf yX4_volumeOf ∈ wsL_law := inL 7 (by decide +kernel) rfl
theorem wSE_X4_sumOf : Cond.selects RX4 yX4_sumOf yX4_sumOf ∈ wsL_law := inL 8 (by decide +kernel) rfl
theorem wSE_X4_imbalanceOf : Cond.selects RX4 yX4_imbalanceOf yX4_imbalanceOf ∈ wsL_law := inL 9 (by decide +kernel) rfl
theorem wSE_X4_endsOf : Cond.selects RX4 yX4_endsOf yX4_endsOf ∈ wsL_law := inL 10 (by decide +kernel) rfl
theorem wSE_X4_linesBeyond : Cond.selects RX4 yX4_linesBeyond yX4_linesBeyond ∈ wsL_law := inL 11 (by decide +kernel) rfl
theorem wSE_X4_fail : Cond.selects RX4 yX4_fail yX4_fail ∈ wsL_law := inL 12 (by decide +kernel) rfl
theorem wSE_X4_leave : Cond.selects RX4 yX4_leave yX4_leave ∈ wsL_law := inL 13 (by decide +kernel) rfl
theorem wSE_X4_tellTicket : Cond.selects RX4 yX4_tellTicket yX4_tellTicket ∈ wsL_law := inL 14 (by decide +kernel) rfl
theorem wSE_X4_countNotReplaced : Cond.selects RX4 yX4_countNotReplaced yX4_countNotReplaced ∈ wsL_law := inL 15 (by decide +kernel) rfl
theorem wSE_X5_noMeter : Cond.selects RX5 yX5_noMeter yX5_noMeter ∈ wsL_law := inL 16 (by decide +kernel) rfl
theorem wSE_X5_addFactor : Cond.selects RX5 yX5_addFactor yX5_addFactor ∈ wsL_law := inL 17 (by decide +kernel) rfl
theorem wSE_X5_factorAt : Cond.selects RX5 yX5_factorAt yX5_factorAt ∈ wsL_law := inL 18 (by decide +kernel) rfl
theorem wSE_X5_findCurve : Cond.selects RX5 yX5_findCurve yX5_findCurve ∈ wsL_law := inL 19 (by decide +kernel) rfl
theorem wSE_X5_addPoint : Cond.selects RX5 yX5_addPoint yX5_addPoint ∈ wsL_law := inL 20 (by decide +kernel) rfl
theorem wSE_X5_isGood : Cond.selects RX5 yX5_isGood yX5_isGood ∈ wsL_law := inL 21 (by decide +kernel) rfl
theorem wSE_X5_isShut : Cond.selects RX5 yX5_isShut yX5_isShut ∈ wsL_law := inL 22 (by decide +kernel) rfl
theorem wSE_X5_add : Cond.selects RX5 yX5_add yX5_add ∈ wsL_law := inL 23 (by decide +kernel) rfl
theorem wSE_X5_noTicket : Cond.selects RX5 yX5_noTicket yX5_noTicket ∈ wsL_law := inL 24 (by decide +kernel) rfl
theorem wSE_X5_isStale : Cond.selects RX5 yX5_isStale yX5_isStale ∈ wsL_law := inL 25 (by decide +kernel) rfl
theorem wSE_X5_volumeOf : Cond.selects RX5 yX5_volumeOf yX5_volumeOf ∈ wsL_law := inL 26 (by decide +kernel) rfl
theorem wSE_X5_sumOf : Cond.selects RX5 yX5_sumOf yX5_sumOf ∈ wsL_law := inL 27 (by decide +kernel) rfl
theorem wSE_X5_imbalance : Cond.selects RX5 yX5_imbalance yX5_imbalance ∈ wsL_law := inL 28 (by decide +kernel) rfl
theorem wSE_X5_endsOf : Cond.selects RX5 yX5_endsOf yX5_endsOf ∈ wsL_law := inL 29 (by decide +kernel) rfl
theorem wSE_X5_beyondOf : Cond.selects RX5 yX5_beyondOf yX5_beyondOf ∈ wsL_law := inL 30 (by decide +kernel) rfl
theorem wSE_X5_refused : Cond.selects RX5 yX5_refused yX5_refused ∈ wsL_law := inL 31 (by decide +kernel) rfl
theorem wSE_X5_failed : Cond.selects RX5 yX5_failed yX5_failed ∈ wsL_law := inL 32 (by decide +kernel) rfl
theorem wSE_X5_noCell : Cond.selects RX5 yX5_noCell yX5_noCell ∈ wsL_law := inL 33 (by decide +kernel) rfl
theorem wSE_X5_failedLong : Cond.selects RX5 yX5_failedLong yX5_failedLong ∈ wsL_law := inL 34 (by decide +kernel) rfl
theorem wSE_X5_traced : Cond.selects RX5 yX5_traced yX5_traced ∈ wsL_law := inL 35 (by decide +kernel) rfl
theorem inlX0 : ∀ w ∈ wsX00, w ∈ wsL_law := inl_of [167, 169, 171, 173, 175, 177, 179] (by decide +kernel) (by decide +kernel)
theorem inlX1 : ∀ w ∈ wsX10, w ∈ wsL_law := inl_of [73, 75, 77, 79, 81, 83] (by decide +kernel) (by decide +kernel)
theorem inlX2 : ∀ w ∈ wsX20, w ∈ wsL_law := inl_of [103, 105, 107, 109] (by decide +kernel) (by decide +kernel)
theorem inlX3 : ∀ w ∈ wsX30, w ∈ wsL_law := inl_of [321, 323, 325, 327, 329, 331, 333, 335] (by decide +kernel) (by decide +kernel)
theorem inlX4 : ∀ w ∈ wsX40, w ∈ wsL_law := inl_of [122, 124, 126, 128, 130, 132, 134, 136, 138] (by decide +kernel) (by decide +kernel)
theorem inlX5 : ∀ w ∈ wsX50, w ∈ wsL_law := inl_of [593, 595, 597, 599, 601, 603, 605, 607, 609, 611, 613, 615, 617, 619, 621, 623, 625, 627, 629, 631, 633, 635, 637, 639, 641, 643, 645, 647, 649, 651, 653, 655, 657] (by decide +kernel) (by decide +kernel)
def NW (U : State) : Prop := va_Nw (.methodLinkNest RX4 23 yX1_init "TrueLitres") U ∧ va_Nw (.methodLinkNest RX4 52 yX2_init "TrueLitres") U ∧ va_Nw (.methodLinkNest RX1 48 yX4_rounded "TrueLitres") U ∧ va_Nw (.methodLinkNest RX3 36 yX4_isWithin "TrueLitres") U ∧ va_Nw (.methodLinkNest RX2 32 yX4_isWithin "TrueLitres") U
theorem NW.warm {s U : State} (hW : s.WarmedH U.vm) (h : NW s) : NW U := ⟨h.1.warmM hW, h.2.1.warmM hW, h.2.2.1.warmM hW, h.2.2.2.1.warmM hW, h.2.2.2.2.warmM hW⟩
theorem NW.same {u U : State} (hv : u.vm = U.vm) (h : NW u) : NW U := ⟨h.1.same rfl hv, h.2.1.same rfl hv, h.2.2.1.same rfl hv, h.2.2.2.1.same rfl hv, h.2.2.2.2.same rfl hv⟩
theorem NW.of {A : Array Value} {U : State} (h : ∀ w ∈ lw_tbl, w.before A U = true) : NW U := ⟨va_Nw.of rfl (h _ wNE_RX4_23), va_Nw.of rfl (h _ wNE_RX4_52), va_Nw.of rfl (h _ wNE_RX1_48), va_Nw.of rfl (h _ wNE_RX3_36), va_Nw.of rfl (h _ wNE_RX2_32)⟩
theorem NW.l_RX4_23 {U : State} (h : NW U) : va_Nw (.methodLinkNest RX4 23 yX1_init "TrueLitres") U := h.1
theorem NW.l_RX4_52 {U : State} (h : NW U) : va_Nw (.methodLinkNest RX4 52 yX2_init "TrueLitres") U := h.2.1
theorem NW.l_RX1_48 {U : State} (h : NW U) : va_Nw (.methodLinkNest RX1 48 yX4_rounded "TrueLitres") U := h.2.2.1
theorem NW.l_RX3_36 {U : State} (h : NW U) : va_Nw (.methodLinkNest RX3 36 yX4_isWithin "TrueLitres") U := h.2.2.2.1
theorem NW.l_RX2_32 {U : State} (h : NW U) : va_Nw (.methodLinkNest RX2 32 yX4_isWithin "TrueLitres") U := h.2.2.2.2
end
section
theorem dX0_init_0 : decode cX0_init 0 = .ok (.aload_n 0, 1) := by decide +kernel
theorem dX0_init_1 : decode cX0_init 1 = .ok (.invokespecial 3, 3) := by decide +kernel
theorem dX0_init_4 : decode cX0_init 4 = .ok (.aload_n 0, 1) := by decide +kernel
theorem dX0_init_5 : decode cX0_init 5 = .ok (.iconst 0, 1) := by decide +kernel
theorem dX0_init_6 : decode cX0_init 6 = .ok (.putfield 9, 3) := by decide +kernel
theorem dX0_init_9 : decode cX0_init 9 = .ok (.aload_n 0, 1) := by decide +kernel
theorem dX0_init_10 : decode cX0_init 10 = .ok (.iconst 4, 1) := by decide +kernel
theorem dX0_init_11 : decode cX0_init 11 = .ok (.newarray .int, 2) := by decide +kernel
theorem dX0_init_13 : decode cX0_init 13 = .ok (.putfield 15, 3) := by decide +kernel
theorem dX0_init_16 : decode cX0_init 16 = .ok (.aload_n 0, 1) := by decide +kernel
theorem dX0_init_17 : decode cX0_init 17 = .ok (.bipush 12, 2) := by decide +kernel
theorem dX0_init_19 : decode cX0_init 19 = .ok (.newarray .int, 2) := by decide +kernel
theorem dX0_init_21 : decode cX0_init 21 = .ok (.putfield 19, 3) := by decide +kernel
theorem dX0_init_24 : decode cX0_init 24 = .ok (.aload_n 0, 1) := by decide +kernel
theorem dX0_init_25 : decode cX0_init 25 = .ok (.bipush 12, 2) := by decide +kernel
theorem dX0_init_27 : decode cX0_init 27 = .ok (.newarray .int, 2) := by decide +kernel
theorem dX0_init_29 : decode cX0_init 29 = .ok (.putfield 22, 3) := by decide +kernel
theorem dX0_init_32 : decode cX0_init 32 = .ok (.aload_n 0, 1) := by decide +kernel
theorem dX0_init_33 : decode cX0_init 33 = .ok (.bipush 12, 2) := by decide +kernel
theorem dX0_init_35 : decode cX0_init 35 = .ok (.newarray .int, 2) := by decide +kernel
theorem dX0_init_37 : decode cX0_init 37 = .ok (.putfield 25, 3) := by decide +kernel
theorem dX0_init_40 : decode cX0_init 40 = .ok (.aload_n 0, 1) := by decide +kernel
theorem dX0_init_41 : decode cX0_init 41 = .ok (.iconst 0, 1) := by decide +kernel
theorem dX0_init_42 : decode cX0_init 42 = .ok (.putfield 28, 3) := by decide +kernel
theorem dX0_init_45 : decode cX0_init 45 = .ok (.aload_n 0, 1) := by decide +kernel
theorem dX0_init_46 : decode cX0_init 46 = .ok (.iload_n 1, 1) := by decide +kernel
theorem dX0_init_47 : decode cX0_init 47 = .ok (.putfield 31, 3) := by decide +kernel
theorem dX0_init_50 : decode cX0_init 50 = .ok (.return_, 1) := by decide +kernel
theorem dX0_isFull_0 : decode cX0_isFull 0 = .ok (.aload_n 0, 1) := by decide +kernel
theorem dX0_isFull_1 : decode cX0_isFull 1 = .ok (.getfield 28, 3) := by decide +kernel
theorem dX0_isFull_4 : decode cX0_isFull 4 = .ok (.bipush 12, 2) := by decide +kernel
theorem dX0_isFull_6 : decode cX0_isFull 6 = .ok (.if_icmp .lt 7, 3) := by decide +kernel
theorem dX0_isFull_9 : decode cX0_isFull 9 = .ok (.iconst 1, 1) := by decide +kernel
theorem dX0_isFull_10 : decode cX0_isFull 10 = .ok (.goto 4, 3) := by decide +kernel
theorem dX0_isFull_13 : decode cX0_isFull 13 = .ok (.iconst 0, 1) := by decide +kernel
theorem dX0_isFull_14 : decode cX0_isFull 14 = .ok (.ireturn, 1) := by decide +kernel
theorem dX0_takeFactor_0 : decode cX0_takeFactor 0 = .ok (.aload_n 0, 1) := by decide +kernel
theorem dX0_takeFactor_1 : decode cX0_takeFactor 1 = .ok (.getfield 28, 3) := by decide +kernel
theorem dX0_takeFactor_4 : decode cX0_takeFactor 4 = .ok (.istore 4, 2) := by decide +kernel
theorem dX0_takeFactor_6 : decode cX0_takeFactor 6 = .ok (.iload 4, 2) := by decide +kernel
theorem dX0_takeFactor_8 : decode cX0_takeFactor 8 = .ok (.ifCond .le 70, 3) := by decide +kernel
theorem dX0_takeFactor_11 : decode cX0_takeFactor 11 = .ok (.aload_n 0, 1) := by decide +kernel
theorem dX0_takeFactor_12 : decode cX0_takeFactor 12 = .ok (.iload 4, 2) := by decide +kernel
theorem dX0_takeFactor_14 : decode cX0_takeFactor 14 = .ok (.iconst 1, 1) := by decide +kernel
theorem dX0_takeFactor_15 : decode cX0_takeFactor 15 = .ok (.isub, 1) := by decide +kernel
theorem dX0_takeFactor_16 : decode cX0_takeFactor 16 = .ok (.iload_n 1, 1) := by decide +kernel
theorem dX0_takeFactor_17 : decode cX0_takeFactor 17 = .ok (.iload_n 2, 1) := by decide +kernel
theorem dX0_takeFactor_18 : decode cX0_takeFactor 18 = .ok (.invokevirtual 34, 3) := by decide +kernel
theorem dX0_takeFactor_21 : decode cX0_takeFactor 21 = .ok (.ifCond .eq 57, 3) := by decide +kernel
theorem dX0_takeFactor_24 : decode cX0_takeFactor 24 = .ok (.aload_n 0, 1) := by decide +kernel
theorem dX0_takeFactor_25 : decode cX0_takeFactor 25 = .ok (.getfield 19, 3) := by decide +kernel
theorem dX0_takeFactor_28 : decode cX0_takeFactor 28 = .ok (.iload 4, 2) := by decide +kernel
theorem dX0_takeFactor_30 : decode cX0_takeFactor 30 = .ok (.aload_n 0, 1) := by decide +kernel
theorem dX0_takeFactor_31 : decode cX0_takeFactor 31 = .ok (.getfield 19, 3) := by decide +kernel
theorem dX0_takeFactor_34 : decode cX0_takeFactor 34 = .ok (.iload 4, 2) := by decide +kernel
theorem dX0_takeFactor_36 : decode cX0_takeFactor 36 = .ok (.iconst 1, 1) := by decide +kernel
theorem dX0_takeFactor_37 : decode cX0_takeFactor 37 = .ok (.isub, 1) := by decide +kernel
theorem dX0_takeFactor_38 : decode cX0_takeFactor 38 = .ok (.iaload, 1) := by decide +kernel
theorem dX0_takeFactor_39 : decode cX0_takeFactor 39 = .ok (.iastore, 1) := by decide +kernel
theorem dX0_takeFactor_40 : decode cX0_takeFactor 40 = .ok (.aload_n 0, 1) := by decide +kernel
theorem dX0_takeFactor_41 : decode cX0_takeFactor 41 = .ok (.getfield 22, 3) := by decide +kernel
theorem dX0_takeFactor_44 : decode cX0_takeFactor 44 = .ok (.iload 4, 2) := by decide +kernel
theorem dX0_takeFactor_46 : decode cX0_takeFactor 46 = .ok (.aload_n 0, 1) := by decide +kernel
theorem dX0_takeFactor_47 : decode cX0_takeFactor 47 = .ok (.getfield 22, 3) := by decide +kernel
theorem dX0_takeFactor_50 : decode cX0_takeFactor 50 = .ok (.iload 4, 2) := by decide +kernel
theorem dX0_takeFactor_52 : decode cX0_takeFactor 52 = .ok (.iconst 1, 1) := by decide +kernel
theorem dX0_takeFactor_53 : decode cX0_takeFactor 53 = .ok (.isub, 1) := by decide +kernel
theorem dX0_takeFactor_54 : decode cX0_takeFactor 54 = .ok (.iaload, 1) := by decide +kernel
theorem dX0_takeFactor_55 : decode cX0_takeFactor 55 = .ok (.iastore, 1) := by decide +kernel
theorem dX0_takeFactor_56 : decode cX0_takeFactor 56 = .ok (.aload_n 0, 1) := by decide +kernel
theorem dX0_takeFactor_57 : decode cX0_takeFactor 57 = .ok (.getfield 25, 3) := by decide +kernel
theorem dX0_takeFactor_60 : decode cX0_takeFactor 60 = .ok (.iload 4, 2) := by decide +kernel
theorem dX0_takeFactor_62 : decode cX0_takeFactor 62 = .ok (.aload_n 0, 1) := by decide +kernel
theorem dX0_takeFactor_63 : decode cX0_takeFactor 63 = .ok (.getfield 25, 3) := by decide +kernel
theorem dX0_takeFactor_66 : decode cX0_takeFactor 66 = .ok (.iload 4, 2) := by decide +kernel
theorem dX0_takeFactor_68 : decode cX0_takeFactor 68 = .ok (.iconst 1, 1) := by decide +kernel
theorem dX0_takeFactor_69 : decode cX0_takeFactor 69 = .ok (.isub, 1) := by decide +kernel
theorem dX0_takeFactor_70 : decode cX0_takeFactor 70 = .ok (.iaload, 1) := by decide +kernel
theorem dX0_takeFactor_71 : decode cX0_takeFactor 71 = .ok (.iastore, 1) := by decide +kernel
theorem dX0_takeFactor_72 : decode cX0_takeFactor 72 = .ok (.iinc 4 (-1), 3) := by decide +kernel
theorem dX0_takeFactor_75 : decode cX0_takeFactor 75 = .ok (.goto (-69), 3) := by decide +kernel
theorem dX0_takeFactor_78 : decode cX0_takeFactor 78 = .ok (.aload_n 0, 1) := by decide +kernel
theorem dX0_takeFactor_79 : decode cX0_takeFactor 79 = .ok (.getfield 19, 3) := by decide +kernel
theorem dX0_takeFactor_82 : decode cX0_takeFactor 82 = .ok (.iload 4, 2) := by decide +kernel
theorem dX0_takeFactor_84 : decode cX0_takeFactor 84 = .ok (.iload_n 1, 1) := by decide +kernel
theorem dX0_takeFactor_85 : decode cX0_takeFactor 85 = .ok (.iastore, 1) := by decide +kernel
theorem dX0_takeFactor_86 : decode cX0_takeFactor 86 = .ok (.aload_n 0, 1) := by decide +kernel
theorem dX0_takeFactor_87 : decode cX0_takeFactor 87 = .ok (.getfield 22, 3) := by decide +kernel
theorem dX0_takeFactor_90 : decode cX0_takeFactor 90 = .ok (.iload 4, 2) := by decide +kernel
theorem dX0_takeFactor_92 : decode cX0_takeFactor 92 = .ok (.iload_n 2, 1) := by decide +kernel
theorem dX0_takeFactor_93 : decode cX0_takeFactor 93 = .ok (.iastore, 1) := by decide +kernel
theorem dX0_takeFactor_94 : decode cX0_takeFactor 94 = .ok (.aload_n 0, 1) := by decide +kernel
theorem dX0_takeFactor_95 : decode cX0_takeFactor 95 = .ok (.getfield 25, 3) := by decide +kernel
theorem dX0_takeFactor_98 : decode cX0_takeFactor 98 = .ok (.iload 4, 2) := by decide +kernel
theorem dX0_takeFactor_100 : decode cX0_takeFactor 100 = .ok (.iload_n 3, 1) := by decide +kernel
theorem dX0_takeFactor_101 : decode cX0_takeFactor 101 = .ok (.iastore, 1) := by decide +kernel
theorem dX0_takeFactor_102 : decode cX0_takeFactor 102 = .ok (.aload_n 0, 1) := by decide +kernel
theorem dX0_takeFactor_103 : decode cX0_takeFactor 103 = .ok (.dup, 1) := by decide +kernel
theorem dX0_takeFactor_104 : decode cX0_takeFactor 104 = .ok (.getfield 28, 3) := by decide +kernel
theorem dX0_takeFactor_107 : decode cX0_takeFactor 107 = .ok (.iconst 1, 1) := by decide +kernel
theorem dX0_takeFactor_108 : decode cX0_takeFactor 108 = .ok (.iadd, 1) := by decide +kernel
theorem dX0_takeFactor_109 : decode cX0_takeFactor 109 = .ok (.putfield 28, 3) := by decide +kernel
theorem dX0_takeFactor_112 : decode cX0_takeFactor 112 = .ok (.return_, 1) := by decide +kernel
theorem dX0_standsBehind_0 : decode cX0_standsBehind 0 = .ok (.aload_n 0, 1) := by decide +kernel
theorem dX0_standsBehind_1 : decode cX0_standsBehind 1 = .ok (.getfield 19, 3) := by decide +kernel
theorem dX0_standsBehind_4 : decode cX0_standsBehind 4 = .ok (.iload_n 1, 1) := by decide +kernel
theorem dX0_standsBehind_5 : decode cX0_standsBehind 5 = .ok (.iaload, 1) := by decide +kernel
theorem dX0_standsBehind_6 : decode cX0_standsBehind 6 = .ok (.iload_n 2, 1) := by decide +kernel
theorem dX0_standsBehind_7 : decode cX0_standsBehind 7 = .ok (.if_icmp .gt 23, 3) := by decide +kernel
theorem dX0_standsBehind_10 : decode cX0_standsBehind 10 = .ok (.aload_n 0, 1) := by decide +kernel
theorem dX0_standsBehind_11 : decode cX0_standsBehind 11 = .ok (.getfield 19, 3) := by decide +kernel
theorem dX0_standsBehind_14 : decode cX0_standsBehind 14 = .ok (.iload_n 1, 1) := by decide +kernel
theorem dX0_standsBehind_15 : decode cX0_standsBehind 15 = .ok (.iaload, 1) := by decide +kernel
theorem dX0_standsBehind_16 : decode cX0_standsBehind 16 = .ok (.iload_n 2, 1) := by decide +kernel
theorem dX0_standsBehind_17 : decode cX0_standsBehind 17 = .ok (.if_icmp .ne 17, 3) := by decide +kernel
theorem dX0_standsBehind_20 : decode cX0_standsBehind 20 = .ok (.aload_n 0, 1) := by decide +kernel
theorem dX0_standsBehind_21 : decode cX0_standsBehind 21 = .ok (.getfield 22, 3) := by decide +kernel
theorem dX0_standsBehind_24 : decode cX0_standsBehind 24 = .ok (.iload_n 1, 1) := by decide +kernel
theorem dX0_standsBehind_25 : decode cX0_standsBehind 25 = .ok (.iaload, 1) := by decide +kernel
theorem dX0_standsBehind_26 : decode cX0_standsBehind 26 = .ok (.iload_n 3, 1) := by decide +kernel
theorem dX0_standsBehind_27 : decode cX0_standsBehind 27 = .ok (.if_icmp .le 7, 3) := by decide +kernel
theorem dX0_standsBehind_30 : decode cX0_standsBehind 30 = .ok (.iconst 1, 1) := by decide +kernel
theorem dX0_standsBehind_31 : decode cX0_standsBehind 31 = .ok (.goto 4, 3) := by decide +kernel
theorem dX0_standsBehind_34 : decode cX0_standsBehind 34 = .ok (.iconst 0, 1) := by decide +kernel
theorem dX0_standsBehind_35 : decode cX0_standsBehind 35 = .ok (.ireturn, 1) := by decide +kernel
theorem dX0_isOnCurve_0 : decode cX0_isOnCurve 0 = .ok (.aload_n 0, 1) := by decide +kernel
theorem dX0_isOnCurve_1 : decode cX0_isOnCurve 1 = .ok (.getfield 22, 3) := by decide +kernel
theorem dX0_isOnCurve_4 : decode cX0_isOnCurve 4 = .ok (.iload_n 1, 1) := by decide +kernel
theorem dX0_isOnCurve_5 : decode cX0_isOnCurve 5 = .ok (.iaload, 1) := by decide +kernel
theorem dX0_isOnCurve_6 : decode cX0_isOnCurve 6 = .ok (.iload_n 2, 1) := by decide +kernel
theorem dX0_isOnCurve_7 : decode cX0_isOnCurve 7 = .ok (.if_icmp .le 5, 3) := by decide +kernel
theorem dX0_isOnCurve_10 : decode cX0_isOnCurve 10 = .ok (.iconst 0, 1) := by decide +kernel
theorem dX0_isOnCurve_11 : decode cX0_isOnCurve 11 = .ok (.ireturn, 1) := by decide +kernel
theorem dX0_isOnCurve_12 : decode cX0_isOnCurve 12 = .ok (.iload_n 1, 1) := by decide +kernel
theorem dX0_isOnCurve_13 : decode cX0_isOnCurve 13 = .ok (.iconst 1, 1) := by decide +kernel
theorem dX0_isOnCurve_14 : decode cX0_isOnCurve 14 = .ok (.iadd, 1) := by decide +kernel
theorem dX0_isOnCurve_15 : decode cX0_isOnCurve 15 = .ok (.istore_n 3, 1) := by decide +kernel
theorem dX0_isOnCurve_16 : decode cX0_isOnCurve 16 = .ok (.iload_n 3, 1) := by decide +kernel
theorem dX0_isOnCurve_17 : decode cX0_isOnCurve 17 = .ok (.aload_n 0, 1) := by decide +kernel
theorem dX0_isOnCurve_18 : decode cX0_isOnCurve 18 = .ok (.getfield 28, 3) := by decide +kernel
theorem dX0_isOnCurve_21 : decode cX0_isOnCurve 21 = .ok (.if_icmp .ge 28, 3) := by decide +kernel
theorem dX0_isOnCurve_24 : decode cX0_isOnCurve 24 = .ok (.aload_n 0, 1) := by decide +kernel
theorem dX0_isOnCurve_25 : decode cX0_isOnCurve 25 = .ok (.getfield 19, 3) := by decide +kernel
theorem dX0_isOnCurve_28 : decode cX0_isOnCurve 28 = .ok (.iload_n 3, 1) := by decide +kernel
theorem dX0_isOnCurve_29 : decode cX0_isOnCurve 29 = .ok (.iaload, 1) := by decide +kernel
theorem dX0_isOnCurve_30 : decode cX0_isOnCurve 30 = .ok (.aload_n 0, 1) := by decide +kernel
theorem dX0_isOnCurve_31 : decode cX0_isOnCurve 31 = .ok (.getfield 19, 3) := by decide +kernel
theorem dX0_isOnCurve_34 : decode cX0_isOnCurve 34 = .ok (.iload_n 1, 1) := by decide +kernel
theorem dX0_isOnCurve_35 : decode cX0_isOnCurve 35 = .ok (.iaload, 1) := by decide +kernel
theorem dX0_isOnCurve_36 : decode cX0_isOnCurve 36 = .ok (.if_icmp .ne 13, 3) := by decide +kernel
theorem dX0_isOnCurve_39 : decode cX0_isOnCurve 39 = .ok (.aload_n 0, 1) := by decide +kernel
theorem dX0_isOnCurve_40 : decode cX0_isOnCurve 40 = .ok (.getfield 22, 3) := by decide +kernel
theorem dX0_isOnCurve_43 : decode cX0_isOnCurve 43 = .ok (.iload_n 3, 1) := by decide +kernel
theorem dX0_isOnCurve_44 : decode cX0_isOnCurve 44 = .ok (.iaload, 1) := by decide +kernel
theorem dX0_isOnCurve_45 : decode cX0_isOnCurve 45 = .ok (.iload_n 2, 1) := by decide +kernel
theorem dX0_isOnCurve_46 : decode cX0_isOnCurve 46 = .ok (.if_icmp .le 7, 3) := by decide +kernel
theorem dX0_isOnCurve_49 : decode cX0_isOnCurve 49 = .ok (.iconst 1, 1) := by decide +kernel
theorem dX0_isOnCurve_50 : decode cX0_isOnCurve 50 = .ok (.goto 4, 3) := by decide +kernel
theorem dX0_isOnCurve_53 : decode cX0_isOnCurve 53 = .ok (.iconst 0, 1) := by decide +kernel
theorem dX0_isOnCurve_54 : decode cX0_isOnCurve 54 = .ok (.ireturn, 1) := by decide +kernel
theorem dX0_curveSize_0 : decode cX0_curveSize 0 = .ok (.iconst 0, 1) := by decide +kernel
theorem dX0_curveSize_1 : decode cX0_curveSize 1 = .ok (.istore_n 2, 1) := by decide +kernel
theorem dX0_curveSize_2 : decode cX0_curveSize 2 = .ok (.iconst 0, 1) := by decide +kernel
theorem dX0_curveSize_3 : decode cX0_curveSize 3 = .ok (.istore_n 3, 1) := by decide +kernel
theorem dX0_curveSize_4 : decode cX0_curveSize 4 = .ok (.iload_n 3, 1) := by decide +kernel
theorem dX0_curveSize_5 : decode cX0_curveSize 5 = .ok (.aload_n 0, 1) := by decide +kernel
theorem dX0_curveSize_6 : decode cX0_curveSize 6 = .ok (.getfield 28, 3) := by decide +kernel
theorem dX0_curveSize_9 : decode cX0_curveSize 9 = .ok (.if_icmp .ge 26, 3) := by decide +kernel
theorem dX0_curveSize_12 : decode cX0_curveSize 12 = .ok (.iload_n 2, 1) := by decide +kernel
theorem dX0_curveSize_13 : decode cX0_curveSize 13 = .ok (.aload_n 0, 1) := by decide +kernel
theorem dX0_curveSize_14 : decode cX0_curveSize 14 = .ok (.iload_n 3, 1) := by decide +kernel
theorem dX0_curveSize_15 : decode cX0_curveSize 15 = .ok (.iload_n 1, 1) := by decide +kernel
theorem dX0_curveSize_16 : decode cX0_curveSize 16 = .ok (.invokevirtual 38, 3) := by decide +kernel
theorem dX0_curveSize_19 : decode cX0_curveSize 19 = .ok (.ifCond .eq 7, 3) := by decide +kernel
theorem dX0_curveSize_22 : decode cX0_curveSize 22 = .ok (.iconst 1, 1) := by decide +kernel
theorem dX0_curveSize_23 : decode cX0_curveSize 23 = .ok (.goto 4, 3) := by decide +kernel
theorem dX0_curveSize_26 : decode cX0_curveSize 26 = .ok (.iconst 0, 1) := by decide +kernel
theorem dX0_curveSize_27 : decode cX0_curveSize 27 = .ok (.iadd, 1) := by decide +kernel
theorem dX0_curveSize_28 : decode cX0_curveSize 28 = .ok (.istore_n 2, 1) := by decide +kernel
theorem dX0_curveSize_29 : decode cX0_curveSize 29 = .ok (.iinc 3 1, 3) := by decide +kernel
theorem dX0_curveSize_32 : decode cX0_curveSize 32 = .ok (.goto (-28), 3) := by decide +kernel
theorem dX0_curveSize_35 : decode cX0_curveSize 35 = .ok (.iload_n 2, 1) := by decide +kernel
theorem dX0_curveSize_36 : decode cX0_curveSize 36 = .ok (.ireturn, 1) := by decide +kernel
theorem dX0_curvePlace_0 : decode cX0_curvePlace 0 = .ok (.iconst 0, 1) := by decide +kernel
theorem dX0_curvePlace_1 : decode cX0_curvePlace 1 = .ok (.istore_n 3, 1) := by decide +kernel
theorem dX0_curvePlace_2 : decode cX0_curvePlace 2 = .ok (.iconst 0, 1) := by decide +kernel
theorem dX0_curvePlace_3 : decode cX0_curvePlace 3 = .ok (.istore 4, 2) := by decide +kernel
theorem dX0_curvePlace_5 : decode cX0_curvePlace 5 = .ok (.iload 4, 2) := by decide +kernel
theorem dX0_curvePlace_7 : decode cX0_curvePlace 7 = .ok (.aload_n 0, 1) := by decide +kernel
theorem dX0_curvePlace_8 : decode cX0_curvePlace 8 = .ok (.getfield 28, 3) := by decide +kernel
theorem dX0_curvePlace_11 : decode cX0_curvePlace 11 = .ok (.if_icmp .ge 30, 3) := by decide +kernel
theorem dX0_curvePlace_14 : decode cX0_curvePlace 14 = .ok (.aload_n 0, 1) := by decide +kernel
theorem dX0_curvePlace_15 : decode cX0_curvePlace 15 = .ok (.iload 4, 2) := by decide +kernel
theorem dX0_curvePlace_17 : decode cX0_curvePlace 17 = .ok (.iload_n 1, 1) := by decide +kernel
theorem dX0_curvePlace_18 : decode cX0_curvePlace 18 = .ok (.invokevirtual 38, 3) := by decide +kernel
theorem dX0_curvePlace_21 : decode cX0_curvePlace 21 = .ok (.ifCond .eq 14, 3) := by decide +kernel
theorem dX0_curvePlace_24 : decode cX0_curvePlace 24 = .ok (.iload_n 3, 1) := by decide +kernel
theorem dX0_curvePlace_25 : decode cX0_curvePlace 25 = .ok (.iload_n 2, 1) := by decide +kernel
theorem dX0_curvePlace_26 : decode cX0_curvePlace 26 = .ok (.if_icmp .ne 6, 3) := by decide +kernel
theorem dX0_curvePlace_29 : decode cX0_curvePlace 29 = .ok (.iload 4, 2) := by decide +kernel
theorem dX0_curvePlace_31 : decode cX0_curvePlace 31 = .ok (.ireturn, 1) := by decide +kernel
theorem dX0_curvePlace_32 : decode cX0_curvePlace 32 = .ok (.iinc 3 1, 3) := by decide +kernel
theorem dX0_curvePlace_35 : decode cX0_curvePlace 35 = .ok (.iinc 4 1, 3) := by decide +kernel
theorem dX0_curvePlace_38 : decode cX0_curvePlace 38 = .ok (.goto (-33), 3) := by decide +kernel
theorem dX0_curvePlace_41 : decode cX0_curvePlace 41 = .ok (.bipush (-9), 2) := by decide +kernel
theorem dX0_curvePlace_43 : decode cX0_curvePlace 43 = .ok (.ireturn, 1) := by decide +kernel
theorem dX0_factorAt_0 : decode cX0_factorAt 0 = .ok (.bipush (-9), 2) := by decide +kernel
theorem dX0_factorAt_2 : decode cX0_factorAt 2 = .ok (.istore_n 3, 1) := by decide +kernel
theorem dX0_factorAt_3 : decode cX0_factorAt 3 = .ok (.bipush (-9), 2) := by decide +kernel
theorem dX0_factorAt_5 : decode cX0_factorAt 5 = .ok (.istore 4, 2) := by decide +kernel
theorem dX0_factorAt_7 : decode cX0_factorAt 7 = .ok (.iconst 0, 1) := by decide +kernel
theorem dX0_factorAt_8 : decode cX0_factorAt 8 = .ok (.istore 5, 2) := by decide +kernel
theorem dX0_factorAt_10 : decode cX0_factorAt 10 = .ok (.iload 5, 2) := by decide +kernel
theorem dX0_factorAt_12 : decode cX0_factorAt 12 = .ok (.aload_n 0, 1) := by decide +kernel
theorem dX0_factorAt_13 : decode cX0_factorAt 13 = .ok (.getfield 28, 3) := by decide +kernel
theorem dX0_factorAt_16 : decode cX0_factorAt 16 = .ok (.if_icmp .ge 55, 3) := by decide +kernel
theorem dX0_factorAt_19 : decode cX0_factorAt 19 = .ok (.aload_n 0, 1) := by decide +kernel
theorem dX0_factorAt_20 : decode cX0_factorAt 20 = .ok (.iload 5, 2) := by decide +kernel
theorem dX0_factorAt_22 : decode cX0_factorAt 22 = .ok (.iload_n 2, 1) := by decide +kernel
theorem dX0_factorAt_23 : decode cX0_factorAt 23 = .ok (.invokevirtual 38, 3) := by decide +kernel
theorem dX0_factorAt_26 : decode cX0_factorAt 26 = .ok (.ifCond .eq 39, 3) := by decide +kernel
theorem dX0_factorAt_29 : decode cX0_factorAt 29 = .ok (.aload_n 0, 1) := by decide +kernel
theorem dX0_factorAt_30 : decode cX0_factorAt 30 = .ok (.getfield 19, 3) := by decide +kernel
theorem dX0_factorAt_33 : decode cX0_factorAt 33 = .ok (.iload 5, 2) := by decide +kernel
theorem dX0_factorAt_35 : decode cX0_factorAt 35 = .ok (.iaload, 1) := by decide +kernel
theorem dX0_factorAt_36 : decode cX0_factorAt 36 = .ok (.iload_n 1, 1) := by decide +kernel
theorem dX0_factorAt_37 : decode cX0_factorAt 37 = .ok (.if_icmp .gt 6, 3) := by decide +kernel
theorem dX0_factorAt_40 : decode cX0_factorAt 40 = .ok (.iload 5, 2) := by decide +kernel
theorem dX0_factorAt_42 : decode cX0_factorAt 42 = .ok (.istore_n 3, 1) := by decide +kernel
theorem dX0_factorAt_43 : decode cX0_factorAt 43 = .ok (.aload_n 0, 1) := by decide +kernel
theorem dX0_factorAt_44 : decode cX0_factorAt 44 = .ok (.getfield 19, 3) := by decide +kernel
theorem dX0_factorAt_47 : decode cX0_factorAt 47 = .ok (.iload 5, 2) := by decide +kernel
theorem dX0_factorAt_49 : decode cX0_factorAt 49 = .ok (.iaload, 1) := by decide +kernel
theorem dX0_factorAt_50 : decode cX0_factorAt 50 = .ok (.iload_n 1, 1) := by decide +kernel
theorem dX0_factorAt_51 : decode cX0_factorAt 51 = .ok (.if_icmp .lt 14, 3) := by decide +kernel
theorem dX0_factorAt_54 : decode cX0_factorAt 54 = .ok (.iload 4, 2) := by decide +kernel
theorem dX0_factorAt_56 : decode cX0_factorAt 56 = .ok (.bipush (-9), 2) := by decide +kernel
theorem dX0_factorAt_58 : decode cX0_factorAt 58 = .ok (.if_icmp .ne 7, 3) := by decide +kernel
theorem dX0_factorAt_61 : decode cX0_factorAt 61 = .ok (.iload 5, 2) := by decide +kernel
theorem dX0_factorAt_63 : decode cX0_factorAt 63 = .ok (.istore 4, 2) := by decide +kernel
theorem dX0_factorAt_65 : decode cX0_factorAt 65 = .ok (.iinc 5 1, 3) := by decide +kernel
theorem dX0_factorAt_68 : decode cX0_factorAt 68 = .ok (.goto (-58), 3) := by decide +kernel
theorem dX0_factorAt_71 : decode cX0_factorAt 71 = .ok (.iload_n 3, 1) := by decide +kernel
theorem dX0_factorAt_72 : decode cX0_factorAt 72 = .ok (.bipush (-9), 2) := by decide +kernel
theorem dX0_factorAt_74 : decode cX0_factorAt 74 = .ok (.if_icmp .ne 23, 3) := by decide +kernel
theorem dX0_factorAt_77 : decode cX0_factorAt 77 = .ok (.iload 4, 2) := by decide +kernel
theorem dX0_factorAt_79 : decode cX0_factorAt 79 = .ok (.bipush (-9), 2) := by decide +kernel
theorem dX0_factorAt_81 : decode cX0_factorAt 81 = .ok (.if_icmp .ne 8, 3) := by decide +kernel
theorem dX0_factorAt_84 : decode cX0_factorAt 84 = .ok (.ldc 42, 2) := by decide +kernel
theorem dX0_factorAt_86 : decode cX0_factorAt 86 = .ok (.goto 10, 3) := by decide +kernel
theorem dX0_factorAt_89 : decode cX0_factorAt 89 = .ok (.aload_n 0, 1) := by decide +kernel
theorem dX0_factorAt_90 : decode cX0_factorAt 90 = .ok (.getfield 25, 3) := by decide +kernel
theorem dX0_factorAt_93 : decode cX0_factorAt 93 = .ok (.iload 4, 2) := by decide +kernel
theorem dX0_factorAt_95 : decode cX0_factorAt 95 = .ok (.iaload, 1) := by decide +kernel
theorem dX0_factorAt_96 : decode cX0_factorAt 96 = .ok (.ireturn, 1) := by decide +kernel
theorem dX0_factorAt_97 : decode cX0_factorAt 97 = .ok (.iload 4, 2) := by decide +kernel
theorem dX0_factorAt_99 : decode cX0_factorAt 99 = .ok (.bipush (-9), 2) := by decide +kernel
theorem dX0_factorAt_101 : decode cX0_factorAt 101 = .ok (.if_icmp .ne 12, 3) := by decide +kernel
theorem dX0_factorAt_104 : decode cX0_factorAt 104 = .ok (.aload_n 0, 1) := by decide +kernel
theorem dX0_factorAt_105 : decode cX0_factorAt 105 = .ok (.getfield 25, 3) := by decide +kernel
theorem dX0_factorAt_108 : decode cX0_factorAt 108 = .ok (.iload_n 3, 1) := by decide +kernel
theorem dX0_factorAt_109 : decode cX0_factorAt 109 = .ok (.iaload, 1) := by decide +kernel
theorem dX0_factorAt_110 : decode cX0_factorAt 110 = .ok (.goto 11, 3) := by decide +kernel
theorem dX0_factorAt_113 : decode cX0_factorAt 113 = .ok (.aload_n 0, 1) := by decide +kernel
theorem dX0_factorAt_114 : decode cX0_factorAt 114 = .ok (.iload_n 3, 1) := by decide +kernel
theorem dX0_factorAt_115 : decode cX0_factorAt 115 = .ok (.iload 4, 2) := by decide +kernel
theorem dX0_factorAt_117 : decode cX0_factorAt 117 = .ok (.iload_n 1, 1) := by decide +kernel
theorem dX0_factorAt_118 : decode cX0_factorAt 118 = .ok (.invokevirtual 43, 3) := by decide +kernel
theorem dX0_factorAt_121 : decode cX0_factorAt 121 = .ok (.ireturn, 1) := by decide +kernel
theorem dX0_between_0 : decode cX0_between 0 = .ok (.aload_n 0, 1) := by decide +kernel
theorem dX0_between_1 : decode cX0_between 1 = .ok (.getfield 19, 3) := by decide +kernel
theorem dX0_between_4 : decode cX0_between 4 = .ok (.iload_n 2, 1) := by decide +kernel
theorem dX0_between_5 : decode cX0_between 5 = .ok (.iaload, 1) := by decide +kernel
theorem dX0_between_6 : decode cX0_between 6 = .ok (.aload_n 0, 1) := by decide +kernel
theorem dX0_between_7 : decode cX0_between 7 = .ok (.getfield 19, 3) := by decide +kernel
theorem dX0_between_10 : decode cX0_between 10 = .ok (.iload_n 1, 1) := by decide +kernel
theorem dX0_between_11 : decode cX0_between 11 = .ok (.iaload, 1) := by decide +kernel
theorem dX0_between_12 : decode cX0_between 12 = .ok (.isub, 1) := by decide +kernel
theorem dX0_between_13 : decode cX0_between 13 = .ok (.istore 4, 2) := by decide +kernel
theorem dX0_between_15 : decode cX0_between 15 = .ok (.iload 4, 2) := by decide +kernel
theorem dX0_between_17 : decode cX0_between 17 = .ok (.ifCond .ne 10, 3) := by decide +kernel
theorem dX0_between_20 : decode cX0_between 20 = .ok (.aload_n 0, 1) := by decide +kernel
theorem dX0_between_21 : decode cX0_between 21 = .ok (.getfield 25, 3) := by decide +kernel
theorem dX0_between_24 : decode cX0_between 24 = .ok (.iload_n 1, 1) := by decide +kernel
theorem dX0_between_25 : decode cX0_between 25 = .ok (.iaload, 1) := by decide +kernel
theorem dX0_between_26 : decode cX0_between 26 = .ok (.ireturn, 1) := by decide +kernel
theorem dX0_between_27 : decode cX0_between 27 = .ok (.aload_n 0, 1) := by decide +kernel
theorem dX0_between_28 : decode cX0_between 28 = .ok (.getfield 25, 3) := by decide +kernel
theorem dX0_between_31 : decode cX0_between 31 = .ok (.iload_n 1, 1) := by decide +kernel
theorem dX0_between_32 : decode cX0_between 32 = .ok (.iaload, 1) := by decide +kernel
theorem dX0_between_33 : decode cX0_between 33 = .ok (.aload_n 0, 1) := by decide +kernel
theorem dX0_between_34 : decode cX0_between 34 = .ok (.getfield 25, 3) := by decide +kernel
theorem dX0_between_37 : decode cX0_between 37 = .ok (.iload_n 2, 1) := by decide +kernel
theorem dX0_between_38 : decode cX0_between 38 = .ok (.iaload, 1) := by decide +kernel
theorem dX0_between_39 : decode cX0_between 39 = .ok (.aload_n 0, 1) := by decide +kernel
theorem dX0_between_40 : decode cX0_between 40 = .ok (.getfield 25, 3) := by decide +kernel
theorem dX0_between_43 : decode cX0_between 43 = .ok (.iload_n 1, 1) := by decide +kernel
theorem dX0_between_44 : decode cX0_between 44 = .ok (.iaload, 1) := by decide +kernel
theorem dX0_between_45 : decode cX0_between 45 = .ok (.isub, 1) := by decide +kernel
theorem dX0_between_46 : decode cX0_between 46 = .ok (.iload_n 3, 1) := by decide +kernel
theorem dX0_between_47 : decode cX0_between 47 = .ok (.aload_n 0, 1) := by decide +kernel
theorem dX0_between_48 : decode cX0_between 48 = .ok (.getfield 19, 3) := by decide +kernel
theorem dX0_between_51 : decode cX0_between 51 = .ok (.iload_n 1, 1) := by decide +kernel
theorem dX0_between_52 : decode cX0_between 52 = .ok (.iaload, 1) := by decide +kernel
theorem dX0_between_53 : decode cX0_between 53 = .ok (.isub, 1) := by decide +kernel
theorem dX0_between_54 : decode cX0_between 54 = .ok (.imul, 1) := by decide +kernel
theorem dX0_between_55 : decode cX0_between 55 = .ok (.iload 4, 2) := by decide +kernel
theorem dX0_between_57 : decode cX0_between 57 = .ok (.idiv, 1) := by decide +kernel
theorem dX0_between_58 : decode cX0_between 58 = .ok (.iadd, 1) := by decide +kernel
theorem dX0_between_59 : decode cX0_between 59 = .ok (.ireturn, 1) := by decide +kernel
theorem dX1_init_0 : decode cX1_init 0 = .ok (.aload_n 0, 1) := by decide +kernel
theorem dX1_init_1 : decode cX1_init 1 = .ok (.invokespecial 3, 3) := by decide +kernel
theorem dX1_init_4 : decode cX1_init 4 = .ok (.aload_n 0, 1) := by decide +kernel
theorem dX1_init_5 : decode cX1_init 5 = .ok (.iconst 0, 1) := by decide +kernel
theorem dX1_init_6 : decode cX1_init 6 = .ok (.putfield 9, 3) := by decide +kernel
theorem dX1_init_9 : decode cX1_init 9 = .ok (.aload_n 0, 1) := by decide +kernel
theorem dX1_init_10 : decode cX1_init 10 = .ok (.iconst 0, 1) := by decide +kernel
theorem dX1_init_11 : decode cX1_init 11 = .ok (.putfield 15, 3) := by decide +kernel
theorem dX1_init_14 : decode cX1_init 14 = .ok (.aload_n 0, 1) := by decide +kernel
theorem dX1_init_15 : decode cX1_init 15 = .ok (.iconst 0, 1) := by decide +kernel
theorem dX1_init_16 : decode cX1_init 16 = .ok (.putfield 19, 3) := by decide +kernel
theorem dX1_init_19 : decode cX1_init 19 = .ok (.aload_n 0, 1) := by decide +kernel
theorem dX1_init_20 : decode cX1_init 20 = .ok (.iconst 0, 1) := by decide +kernel
theorem dX1_init_21 : decode cX1_init 21 = .ok (.putfield 22, 3) := by decide +kernel
theorem dX1_init_24 : decode cX1_init 24 = .ok (.aload_n 0, 1) := by decide +kernel
theorem dX1_init_25 : decode cX1_init 25 = .ok (.bipush 12, 2) := by decide +kernel
theorem dX1_init_27 : decode cX1_init 27 = .ok (.newarray .long, 2) := by decide +kernel
theorem dX1_init_29 : decode cX1_init 29 = .ok (.putfield 25, 3) := by decide +kernel
theorem dX1_init_32 : decode cX1_init 32 = .ok (.aload_n 0, 1) := by decide +kernel
theorem dX1_init_33 : decode cX1_init 33 = .ok (.iconst 0, 1) := by decide +kernel
theorem dX1_init_34 : decode cX1_init 34 = .ok (.putfield 29, 3) := by decide +kernel
theorem dX1_init_37 : decode cX1_init 37 = .ok (.return_, 1) := by decide +kernel
theorem dX1_begin_0 : decode cX1_begin 0 = .ok (.aload_n 0, 1) := by decide +kernel
theorem dX1_begin_1 : decode cX1_begin 1 = .ok (.iconst 1, 1) := by decide +kernel
theorem dX1_begin_2 : decode cX1_begin 2 = .ok (.putfield 9, 3) := by decide +kernel
theorem dX1_begin_5 : decode cX1_begin 5 = .ok (.aload_n 0, 1) := by decide +kernel
theorem dX1_begin_6 : decode cX1_begin 6 = .ok (.iload_n 1, 1) := by decide +kernel
theorem dX1_begin_7 : decode cX1_begin 7 = .ok (.putfield 15, 3) := by decide +kernel
theorem dX1_begin_10 : decode cX1_begin 10 = .ok (.aload_n 0, 1) := by decide +kernel
theorem dX1_begin_11 : decode cX1_begin 11 = .ok (.iload_n 2, 1) := by decide +kernel
theorem dX1_begin_12 : decode cX1_begin 12 = .ok (.putfield 19, 3) := by decide +kernel
theorem dX1_begin_15 : decode cX1_begin 15 = .ok (.aload_n 0, 1) := by decide +kernel
theorem dX1_begin_16 : decode cX1_begin 16 = .ok (.iload_n 3, 1) := by decide +kernel
theorem dX1_begin_17 : decode cX1_begin 17 = .ok (.putfield 22, 3) := by decide +kernel
theorem dX1_begin_20 : decode cX1_begin 20 = .ok (.aload_n 0, 1) := by decide +kernel
theorem dX1_begin_21 : decode cX1_begin 21 = .ok (.iconst 0, 1) := by decide +kernel
theorem dX1_begin_22 : decode cX1_begin 22 = .ok (.putfield 29, 3) := by decide +kernel
theorem dX1_begin_25 : decode cX1_begin 25 = .ok (.return_, 1) := by decide +kernel
theorem dX1_isGood_0 : decode cX1_isGood 0 = .ok (.aload_n 0, 1) := by decide +kernel
theorem dX1_isGood_1 : decode cX1_isGood 1 = .ok (.getfield 29, 3) := by decide +kernel
theorem dX1_isGood_4 : decode cX1_isGood 4 = .ok (.iconst 5, 1) := by decide +kernel
theorem dX1_isGood_5 : decode cX1_isGood 5 = .ok (.if_icmp .ge 5, 3) := by decide +kernel
theorem dX1_isGood_8 : decode cX1_isGood 8 = .ok (.iconst 0, 1) := by decide +kernel
theorem dX1_isGood_9 : decode cX1_isGood 9 = .ok (.ireturn, 1) := by decide +kernel
theorem dX1_isGood_10 : decode cX1_isGood 10 = .ok (.aload_n 0, 1) := by decide +kernel
theorem dX1_isGood_11 : decode cX1_isGood 11 = .ok (.getfield 25, 3) := by decide +kernel
theorem dX1_isGood_14 : decode cX1_isGood 14 = .ok (.aload_n 0, 1) := by decide +kernel
theorem dX1_isGood_15 : decode cX1_isGood 15 = .ok (.getfield 29, 3) := by decide +kernel
theorem dX1_isGood_18 : decode cX1_isGood 18 = .ok (.iconst 1, 1) := by decide +kernel
theorem dX1_isGood_19 : decode cX1_isGood 19 = .ok (.isub, 1) := by decide +kernel
theorem dX1_isGood_20 : decode cX1_isGood 20 = .ok (.laload, 1) := by decide +kernel
theorem dX1_isGood_21 : decode cX1_isGood 21 = .ok (.lstore_n 1, 1) := by decide +kernel
theorem dX1_isGood_22 : decode cX1_isGood 22 = .ok (.lload_n 1, 1) := by decide +kernel
theorem dX1_isGood_23 : decode cX1_isGood 23 = .ok (.lstore_n 3, 1) := by decide +kernel
theorem dX1_isGood_24 : decode cX1_isGood 24 = .ok (.aload_n 0, 1) := by decide +kernel
theorem dX1_isGood_25 : decode cX1_isGood 25 = .ok (.getfield 29, 3) := by decide +kernel
theorem dX1_isGood_28 : decode cX1_isGood 28 = .ok (.iconst 5, 1) := by decide +kernel
theorem dX1_isGood_29 : decode cX1_isGood 29 = .ok (.isub, 1) := by decide +kernel
theorem dX1_isGood_30 : decode cX1_isGood 30 = .ok (.istore 5, 2) := by decide +kernel
theorem dX1_isGood_32 : decode cX1_isGood 32 = .ok (.iload 5, 2) := by decide +kernel
theorem dX1_isGood_34 : decode cX1_isGood 34 = .ok (.aload_n 0, 1) := by decide +kernel
theorem dX1_isGood_35 : decode cX1_isGood 35 = .ok (.getfield 29, 3) := by decide +kernel
theorem dX1_isGood_38 : decode cX1_isGood 38 = .ok (.if_icmp .ge 33, 3) := by decide +kernel
theorem dX1_isGood_41 : decode cX1_isGood 41 = .ok (.lload_n 1, 1) := by decide +kernel
theorem dX1_isGood_42 : decode cX1_isGood 42 = .ok (.aload_n 0, 1) := by decide +kernel
theorem dX1_isGood_43 : decode cX1_isGood 43 = .ok (.getfield 25, 3) := by decide +kernel
theorem dX1_isGood_46 : decode cX1_isGood 46 = .ok (.iload 5, 2) := by decide +kernel
theorem dX1_isGood_48 : decode cX1_isGood 48 = .ok (.laload, 1) := by decide +kernel
theorem dX1_isGood_49 : decode cX1_isGood 49 = .ok (.invokestatic 32, 3) := by decide +kernel
theorem dX1_isGood_52 : decode cX1_isGood 52 = .ok (.lstore_n 1, 1) := by decide +kernel
theorem dX1_isGood_53 : decode cX1_isGood 53 = .ok (.lload_n 3, 1) := by decide +kernel
theorem dX1_isGood_54 : decode cX1_isGood 54 = .ok (.aload_n 0, 1) := by decide +kernel
theorem dX1_isGood_55 : decode cX1_isGood 55 = .ok (.getfield 25, 3) := by decide +kernel
theorem dX1_isGood_58 : decode cX1_isGood 58 = .ok (.iload 5, 2) := by decide +kernel
theorem dX1_isGood_60 : decode cX1_isGood 60 = .ok (.laload, 1) := by decide +kernel
theorem dX1_isGood_61 : decode cX1_isGood 61 = .ok (.invokestatic 38, 3) := by decide +kernel
theorem dX1_isGood_64 : decode cX1_isGood 64 = .ok (.lstore_n 3, 1) := by decide +kernel
theorem dX1_isGood_65 : decode cX1_isGood 65 = .ok (.iinc 5 1, 3) := by decide +kernel
theorem dX1_isGood_68 : decode cX1_isGood 68 = .ok (.goto (-36), 3) := by decide +kernel
theorem dX1_isGood_71 : decode cX1_isGood 71 = .ok (.lload_n 1, 1) := by decide +kernel
theorem dX1_isGood_72 : decode cX1_isGood 72 = .ok (.lconst 0, 1) := by decide +kernel
theorem dX1_isGood_73 : decode cX1_isGood 73 = .ok (.lcmp, 1) := by decide +kernel
theorem dX1_isGood_74 : decode cX1_isGood 74 = .ok (.ifCond .le 19, 3) := by decide +kernel
theorem dX1_isGood_77 : decode cX1_isGood 77 = .ok (.ldc2_w 41, 3) := by decide +kernel
theorem dX1_isGood_80 : decode cX1_isGood 80 = .ok (.lload_n 3, 1) := by decide +kernel
theorem dX1_isGood_81 : decode cX1_isGood 81 = .ok (.lload_n 1, 1) := by decide +kernel
theorem dX1_isGood_82 : decode cX1_isGood 82 = .ok (.lsub, 1) := by decide +kernel
theorem dX1_isGood_83 : decode cX1_isGood 83 = .ok (.lmul, 1) := by decide +kernel
theorem dX1_isGood_84 : decode cX1_isGood 84 = .ok (.lload_n 1, 1) := by decide +kernel
theorem dX1_isGood_85 : decode cX1_isGood 85 = .ok (.lcmp, 1) := by decide +kernel
theorem dX1_isGood_86 : decode cX1_isGood 86 = .ok (.ifCond .gt 7, 3) := by decide +kernel
theorem dX1_isGood_89 : decode cX1_isGood 89 = .ok (.iconst 1, 1) := by decide +kernel
theorem dX1_isGood_90 : decode cX1_isGood 90 = .ok (.goto 4, 3) := by decide +kernel
theorem dX1_isGood_93 : decode cX1_isGood 93 = .ok (.iconst 0, 1) := by decide +kernel
theorem dX1_isGood_94 : decode cX1_isGood 94 = .ok (.ireturn, 1) := by decide +kernel
theorem dX1_factorOf_0 : decode cX1_factorOf 0 = .ok (.lconst 0, 1) := by decide +kernel
theorem dX1_factorOf_1 : decode cX1_factorOf 1 = .ok (.lstore_n 2, 1) := by decide +kernel
theorem dX1_factorOf_2 : decode cX1_factorOf 2 = .ok (.iconst 0, 1) := by decide +kernel
theorem dX1_factorOf_3 : decode cX1_factorOf 3 = .ok (.aload_n 0, 1) := by decide +kernel
theorem dX1_factorOf_4 : decode cX1_factorOf 4 = .ok (.getfield 29, 3) := by decide +kernel
theorem dX1_factorOf_7 : decode cX1_factorOf 7 = .ok (.iconst 5, 1) := by decide +kernel
theorem dX1_factorOf_8 : decode cX1_factorOf 8 = .ok (.isub, 1) := by decide +kernel
theorem dX1_factorOf_9 : decode cX1_factorOf 9 = .ok (.invokestatic 43, 3) := by decide +kernel
theorem dX1_factorOf_12 : decode cX1_factorOf 12 = .ok (.istore 4, 2) := by decide +kernel
theorem dX1_factorOf_14 : decode cX1_factorOf 14 = .ok (.iload 4, 2) := by decide +kernel
theorem dX1_factorOf_16 : decode cX1_factorOf 16 = .ok (.aload_n 0, 1) := by decide +kernel
theorem dX1_factorOf_17 : decode cX1_factorOf 17 = .ok (.getfield 29, 3) := by decide +kernel
theorem dX1_factorOf_20 : decode cX1_factorOf 20 = .ok (.if_icmp .ge 19, 3) := by decide +kernel
theorem dX1_factorOf_23 : decode cX1_factorOf 23 = .ok (.lload_n 2, 1) := by decide +kernel
theorem dX1_factorOf_24 : decode cX1_factorOf 24 = .ok (.aload_n 0, 1) := by decide +kernel
theorem dX1_factorOf_25 : decode cX1_factorOf 25 = .ok (.getfield 25, 3) := by decide +kernel
theorem dX1_factorOf_28 : decode cX1_factorOf 28 = .ok (.iload 4, 2) := by decide +kernel
theorem dX1_factorOf_30 : decode cX1_factorOf 30 = .ok (.laload, 1) := by decide +kernel
theorem dX1_factorOf_31 : decode cX1_factorOf 31 = .ok (.ladd, 1) := by decide +kernel
theorem dX1_factorOf_32 : decode cX1_factorOf 32 = .ok (.lstore_n 2, 1) := by decide +kernel
theorem dX1_factorOf_33 : decode cX1_factorOf 33 = .ok (.iinc 4 1, 3) := by decide +kernel
theorem dX1_factorOf_36 : decode cX1_factorOf 36 = .ok (.goto (-22), 3) := by decide +kernel
theorem dX1_factorOf_39 : decode cX1_factorOf 39 = .ok (.ldc2_w 46, 3) := by decide +kernel
theorem dX1_factorOf_42 : decode cX1_factorOf 42 = .ok (.aload_n 0, 1) := by decide +kernel
theorem dX1_factorOf_43 : decode cX1_factorOf 43 = .ok (.getfield 22, 3) := by decide +kernel
theorem dX1_factorOf_46 : decode cX1_factorOf 46 = .ok (.i2l, 1) := by decide +kernel
theorem dX1_factorOf_47 : decode cX1_factorOf 47 = .ok (.lmul, 1) := by decide +kernel
theorem dX1_factorOf_48 : decode cX1_factorOf 48 = .ok (.iload_n 1, 1) := by decide +kernel
theorem dX1_factorOf_49 : decode cX1_factorOf 49 = .ok (.i2l, 1) := by decide +kernel
theorem dX1_factorOf_50 : decode cX1_factorOf 50 = .ok (.lmul, 1) := by decide +kernel
theorem dX1_factorOf_51 : decode cX1_factorOf 51 = .ok (.lload_n 2, 1) := by decide +kernel
theorem dX1_factorOf_52 : decode cX1_factorOf 52 = .ok (.invokestatic 48, 3) := by decide +kernel
theorem dX1_factorOf_55 : decode cX1_factorOf 55 = .ok (.lreturn, 1) := by decide +kernel
theorem dX2_init_0 : decode cX2_init 0 = .ok (.aload_n 0, 1) := by decide +kernel
theorem dX2_init_1 : decode cX2_init 1 = .ok (.invokespecial 3, 3) := by decide +kernel
theorem dX2_init_4 : decode cX2_init 4 = .ok (.aload_n 0, 1) := by decide +kernel
theorem dX2_init_5 : decode cX2_init 5 = .ok (.bipush 60, 2) := by decide +kernel
theorem dX2_init_7 : decode cX2_init 7 = .ok (.newarray .int, 2) := by decide +kernel
theorem dX2_init_9 : decode cX2_init 9 = .ok (.putfield 9, 3) := by decide +kernel
theorem dX2_init_12 : decode cX2_init 12 = .ok (.aload_n 0, 1) := by decide +kernel
theorem dX2_init_13 : decode cX2_init 13 = .ok (.iconst 0, 1) := by decide +kernel
theorem dX2_init_14 : decode cX2_init 14 = .ok (.putfield 15, 3) := by decide +kernel
theorem dX2_init_17 : decode cX2_init 17 = .ok (.aload_n 0, 1) := by decide +kernel
theorem dX2_init_18 : decode cX2_init 18 = .ok (.iconst 0, 1) := by decide +kernel
theorem dX2_init_19 : decode cX2_init 19 = .ok (.putfield 19, 3) := by decide +kernel
theorem dX2_init_22 : decode cX2_init 22 = .ok (.aload_n 0, 1) := by decide +kernel
theorem dX2_init_23 : decode cX2_init 23 = .ok (.iconst 0, 1) := by decide +kernel
theorem dX2_init_24 : decode cX2_init 24 = .ok (.putfield 23, 3) := by decide +kernel
theorem dX2_init_27 : decode cX2_init 27 = .ok (.return_, 1) := by decide +kernel
theorem dX2_renew_0 : decode cX2_renew 0 = .ok (.aload_n 0, 1) := by decide +kernel
theorem dX2_renew_1 : decode cX2_renew 1 = .ok (.getfield 9, 3) := by decide +kernel
theorem dX2_renew_4 : decode cX2_renew 4 = .ok (.iconst 0, 1) := by decide +kernel
theorem dX2_renew_5 : decode cX2_renew 5 = .ok (.invokestatic 26, 3) := by decide +kernel
theorem dX2_renew_8 : decode cX2_renew 8 = .ok (.aload_n 0, 1) := by decide +kernel
theorem dX2_renew_9 : decode cX2_renew 9 = .ok (.iconst 1, 1) := by decide +kernel
theorem dX2_renew_10 : decode cX2_renew 10 = .ok (.putfield 15, 3) := by decide +kernel
theorem dX2_renew_13 : decode cX2_renew 13 = .ok (.aload_n 0, 1) := by decide +kernel
theorem dX2_renew_14 : decode cX2_renew 14 = .ok (.iload_n 1, 1) := by decide +kernel
theorem dX2_renew_15 : decode cX2_renew 15 = .ok (.putfield 19, 3) := by decide +kernel
theorem dX2_renew_18 : decode cX2_renew 18 = .ok (.aload_n 0, 1) := by decide +kernel
theorem dX2_renew_19 : decode cX2_renew 19 = .ok (.iload_n 2, 1) := by decide +kernel
theorem dX2_renew_20 : decode cX2_renew 20 = .ok (.putfield 23, 3) := by decide +kernel
theorem dX2_renew_23 : decode cX2_renew 23 = .ok (.return_, 1) := by decide +kernel
theorem dX2_hasCell_0 : decode cX2_hasCell 0 = .ok (.iload_n 1, 1) := by decide +kernel
theorem dX2_hasCell_1 : decode cX2_hasCell 1 = .ok (.iconst 0, 1) := by decide +kernel
theorem dX2_hasCell_2 : decode cX2_hasCell 2 = .ok (.aload_n 0, 1) := by decide +kernel
theorem dX2_hasCell_3 : decode cX2_hasCell 3 = .ok (.getfield 23, 3) := by decide +kernel
theorem dX2_hasCell_6 : decode cX2_hasCell 6 = .ok (.iconst 1, 1) := by decide +kernel
theorem dX2_hasCell_7 : decode cX2_hasCell 7 = .ok (.isub, 1) := by decide +kernel
theorem dX2_hasCell_8 : decode cX2_hasCell 8 = .ok (.invokestatic 32, 3) := by decide +kernel
theorem dX2_hasCell_11 : decode cX2_hasCell 11 = .ok (.ireturn, 1) := by decide +kernel
theorem dX2_hasCells_0 : decode cX2_hasCells 0 = .ok (.iload_n 1, 1) := by decide +kernel
theorem dX2_hasCells_1 : decode cX2_hasCells 1 = .ok (.iconst 0, 1) := by decide +kernel
theorem dX2_hasCells_2 : decode cX2_hasCells 2 = .ok (.aload_n 0, 1) := by decide +kernel
theorem dX2_hasCells_3 : decode cX2_hasCells 3 = .ok (.getfield 23, 3) := by decide +kernel
theorem dX2_hasCells_6 : decode cX2_hasCells 6 = .ok (.invokestatic 32, 3) := by decide +kernel
theorem dX2_hasCells_9 : decode cX2_hasCells 9 = .ok (.ifCond .eq 21, 3) := by decide +kernel
theorem dX2_hasCells_12 : decode cX2_hasCells 12 = .ok (.iload_n 2, 1) := by decide +kernel
theorem dX2_hasCells_13 : decode cX2_hasCells 13 = .ok (.iconst 0, 1) := by decide +kernel
theorem dX2_hasCells_14 : decode cX2_hasCells 14 = .ok (.aload_n 0, 1) := by decide +kernel
theorem dX2_hasCells_15 : decode cX2_hasCells 15 = .ok (.getfield 23, 3) := by decide +kernel
theorem dX2_hasCells_18 : decode cX2_hasCells 18 = .ok (.iload_n 1, 1) := by decide +kernel
theorem dX2_hasCells_19 : decode cX2_hasCells 19 = .ok (.isub, 1) := by decide +kernel
theorem dX2_hasCells_20 : decode cX2_hasCells 20 = .ok (.invokestatic 32, 3) := by decide +kernel
theorem dX2_hasCells_23 : decode cX2_hasCells 23 = .ok (.ifCond .eq 7, 3) := by decide +kernel
theorem dX2_hasCells_26 : decode cX2_hasCells 26 = .ok (.iconst 1, 1) := by decide +kernel
theorem dX2_hasCells_27 : decode cX2_hasCells 27 = .ok (.goto 4, 3) := by decide +kernel
theorem dX2_hasCells_30 : decode cX2_hasCells 30 = .ok (.iconst 0, 1) := by decide +kernel
theorem dX2_hasCells_31 : decode cX2_hasCells 31 = .ok (.ireturn, 1) := by decide +kernel
theorem dX2_fillIn_0 : decode cX2_fillIn 0 = .ok (.aload_n 0, 1) := by decide +kernel
theorem dX2_fillIn_1 : decode cX2_fillIn 1 = .ok (.getfield 19, 3) := by decide +kernel
theorem dX2_fillIn_4 : decode cX2_fillIn 4 = .ok (.lookupswitch 50 #[(0, 28), (1, 39)], 28) := by decide +kernel
theorem dX2_fillIn_32 : decode cX2_fillIn 32 = .ok (.aload_n 0, 1) := by decide +kernel
theorem dX2_fillIn_33 : decode cX2_fillIn 33 = .ok (.getfield 9, 3) := by decide +kernel
theorem dX2_fillIn_36 : decode cX2_fillIn 36 = .ok (.iload_n 1, 1) := by decide +kernel
theorem dX2_fillIn_37 : decode cX2_fillIn 37 = .ok (.iload_n 2, 1) := by decide +kernel
theorem dX2_fillIn_38 : decode cX2_fillIn 38 = .ok (.i2b, 1) := by decide +kernel
theorem dX2_fillIn_39 : decode cX2_fillIn 39 = .ok (.iastore, 1) := by decide +kernel
theorem dX2_fillIn_40 : decode cX2_fillIn 40 = .ok (.goto 21, 3) := by decide +kernel
theorem dX2_fillIn_43 : decode cX2_fillIn 43 = .ok (.aload_n 0, 1) := by decide +kernel
theorem dX2_fillIn_44 : decode cX2_fillIn 44 = .ok (.getfield 9, 3) := by decide +kernel
theorem dX2_fillIn_47 : decode cX2_fillIn 47 = .ok (.iload_n 1, 1) := by decide +kernel
theorem dX2_fillIn_48 : decode cX2_fillIn 48 = .ok (.iload_n 2, 1) := by decide +kernel
theorem dX2_fillIn_49 : decode cX2_fillIn 49 = .ok (.i2s, 1) := by decide +kernel
theorem dX2_fillIn_50 : decode cX2_fillIn 50 = .ok (.iastore, 1) := by decide +kernel
theorem dX2_fillIn_51 : decode cX2_fillIn 51 = .ok (.goto 10, 3) := by decide +kernel
theorem dX2_fillIn_54 : decode cX2_fillIn 54 = .ok (.aload_n 0, 1) := by decide +kernel
theorem dX2_fillIn_55 : decode cX2_fillIn 55 = .ok (.getfield 9, 3) := by decide +kernel
theorem dX2_fillIn_58 : decode cX2_fillIn 58 = .ok (.iload_n 1, 1) := by decide +kernel
theorem dX2_fillIn_59 : decode cX2_fillIn 59 = .ok (.iload_n 2, 1) := by decide +kernel
theorem dX2_fillIn_60 : decode cX2_fillIn 60 = .ok (.iastore, 1) := by decide +kernel
theorem dX2_fillIn_61 : decode cX2_fillIn 61 = .ok (.return_, 1) := by decide +kernel
theorem dX2_faultAs_0 : decode cX2_faultAs 0 = .ok (.aload_n 0, 1) := by decide +kernel
theorem dX2_faultAs_1 : decode cX2_faultAs 1 = .ok (.getfield 15, 3) := by decide +kernel
theorem dX2_faultAs_4 : decode cX2_faultAs 4 = .ok (.ifCond .ne 5, 3) := by decide +kernel
theorem dX2_faultAs_7 : decode cX2_faultAs 7 = .ok (.iconst 1, 1) := by decide +kernel
theorem dX2_faultAs_8 : decode cX2_faultAs 8 = .ok (.ireturn, 1) := by decide +kernel
theorem dX2_faultAs_9 : decode cX2_faultAs 9 = .ok (.aload_n 0, 1) := by decide +kernel
theorem dX2_faultAs_10 : decode cX2_faultAs 10 = .ok (.getfield 19, 3) := by decide +kernel
theorem dX2_faultAs_13 : decode cX2_faultAs 13 = .ok (.iload_n 1, 1) := by decide +kernel
theorem dX2_faultAs_14 : decode cX2_faultAs 14 = .ok (.if_icmp .ne 7, 3) := by decide +kernel
theorem dX2_faultAs_17 : decode cX2_faultAs 17 = .ok (.iconst 0, 1) := by decide +kernel
theorem dX2_faultAs_18 : decode cX2_faultAs 18 = .ok (.goto 4, 3) := by decide +kernel
theorem dX2_faultAs_21 : decode cX2_faultAs 21 = .ok (.iconst 2, 1) := by decide +kernel
theorem dX2_faultAs_22 : decode cX2_faultAs 22 = .ok (.ireturn, 1) := by decide +kernel
theorem dX2_watched_0 : decode cX2_watched 0 = .ok (.iconst 0, 1) := by decide +kernel
theorem dX2_watched_1 : decode cX2_watched 1 = .ok (.istore 4, 2) := by decide +kernel
theorem dX2_watched_3 : decode cX2_watched 3 = .ok (.iconst 0, 1) := by decide +kernel
theorem dX2_watched_4 : decode cX2_watched 4 = .ok (.istore 5, 2) := by decide +kernel
theorem dX2_watched_6 : decode cX2_watched 6 = .ok (.iconst 0, 1) := by decide +kernel
theorem dX2_watched_7 : decode cX2_watched 7 = .ok (.istore 6, 2) := by decide +kernel
theorem dX2_watched_9 : decode cX2_watched 9 = .ok (.iconst 0, 1) := by decide +kernel
theorem dX2_watched_10 : decode cX2_watched 10 = .ok (.istore 7, 2) := by decide +kernel
theorem dX2_watched_12 : decode cX2_watched 12 = .ok (.iconst 0, 1) := by decide +kernel
theorem dX2_watched_13 : decode cX2_watched 13 = .ok (.istore 8, 2) := by decide +kernel
theorem dX2_watched_15 : decode cX2_watched 15 = .ok (.iload_n 1, 1) := by decide +kernel
theorem dX2_watched_16 : decode cX2_watched 16 = .ok (.istore 9, 2) := by decide +kernel
theorem dX2_watched_18 : decode cX2_watched 18 = .ok (.iload 9, 2) := by decide +kernel
theorem dX2_watched_20 : decode cX2_watched 20 = .ok (.iload_n 1, 1) := by decide +kernel
theorem dX2_watched_21 : decode cX2_watched 21 = .ok (.iload_n 2, 1) := by decide +kernel
theorem dX2_watched_22 : decode cX2_watched 22 = .ok (.iadd, 1) := by decide +kernel
theorem dX2_watched_23 : decode cX2_watched 23 = .ok (.if_icmp .ge 76, 3) := by decide +kernel
theorem dX2_watched_26 : decode cX2_watched 26 = .ok (.aload_n 0, 1) := by decide +kernel
theorem dX2_watched_27 : decode cX2_watched 27 = .ok (.getfield 9, 3) := by decide +kernel
theorem dX2_watched_30 : decode cX2_watched 30 = .ok (.iload 9, 2) := by decide +kernel
theorem dX2_watched_32 : decode cX2_watched 32 = .ok (.iaload, 1) := by decide +kernel
theorem dX2_watched_33 : decode cX2_watched 33 = .ok (.istore 10, 2) := by decide +kernel
theorem dX2_watched_35 : decode cX2_watched 35 = .ok (.iload 10, 2) := by decide +kernel
theorem dX2_watched_37 : decode cX2_watched 37 = .ok (.iconst 1, 1) := by decide +kernel
theorem dX2_watched_38 : decode cX2_watched 38 = .ok (.if_icmp .eq 9, 3) := by decide +kernel
theorem dX2_watched_41 : decode cX2_watched 41 = .ok (.iload 10, 2) := by decide +kernel
theorem dX2_watched_43 : decode cX2_watched 43 = .ok (.iconst 2, 1) := by decide +kernel
theorem dX2_watched_44 : decode cX2_watched 44 = .ok (.if_icmp .ne 49, 3) := by decide +kernel
theorem dX2_watched_47 : decode cX2_watched 47 = .ok (.iinc 4 1, 3) := by decide +kernel
theorem dX2_watched_50 : decode cX2_watched 50 = .ok (.iload 10, 2) := by decide +kernel
theorem dX2_watched_52 : decode cX2_watched 52 = .ok (.iload 8, 2) := by decide +kernel
theorem dX2_watched_54 : decode cX2_watched 54 = .ok (.if_icmp .ne 10, 3) := by decide +kernel
theorem dX2_watched_57 : decode cX2_watched 57 = .ok (.iload 7, 2) := by decide +kernel
theorem dX2_watched_59 : decode cX2_watched 59 = .ok (.iconst 1, 1) := by decide +kernel
theorem dX2_watched_60 : decode cX2_watched 60 = .ok (.iadd, 1) := by decide +kernel
theorem dX2_watched_61 : decode cX2_watched 61 = .ok (.goto 4, 3) := by decide +kernel
theorem dX2_watched_64 : decode cX2_watched 64 = .ok (.iconst 0, 1) := by decide +kernel
theorem dX2_watched_65 : decode cX2_watched 65 = .ok (.istore 7, 2) := by decide +kernel
theorem dX2_watched_67 : decode cX2_watched 67 = .ok (.iload 10, 2) := by decide +kernel
theorem dX2_watched_69 : decode cX2_watched 69 = .ok (.istore 8, 2) := by decide +kernel
theorem dX2_watched_71 : decode cX2_watched 71 = .ok (.iload 7, 2) := by decide +kernel
theorem dX2_watched_73 : decode cX2_watched 73 = .ok (.iconst 2, 1) := by decide +kernel
theorem dX2_watched_74 : decode cX2_watched 74 = .ok (.irem, 1) := by decide +kernel
theorem dX2_watched_75 : decode cX2_watched 75 = .ok (.iconst 1, 1) := by decide +kernel
theorem dX2_watched_76 : decode cX2_watched 76 = .ok (.if_icmp .ne 9, 3) := by decide +kernel
theorem dX2_watched_79 : decode cX2_watched 79 = .ok (.iinc 5 1, 3) := by decide +kernel
theorem dX2_watched_82 : decode cX2_watched 82 = .ok (.goto 11, 3) := by decide +kernel
theorem dX2_watched_85 : decode cX2_watched 85 = .ok (.iload 7, 2) := by decide +kernel
theorem dX2_watched_87 : decode cX2_watched 87 = .ok (.ifCond .le 6, 3) := by decide +kernel
theorem dX2_watched_90 : decode cX2_watched 90 = .ok (.iinc 6 1, 3) := by decide +kernel
theorem dX2_watched_93 : decode cX2_watched 93 = .ok (.iinc 9 1, 3) := by decide +kernel
theorem dX2_watched_96 : decode cX2_watched 96 = .ok (.goto (-78), 3) := by decide +kernel
theorem dX2_watched_99 : decode cX2_watched 99 = .ok (.iload_n 3, 1) := by decide +kernel
theorem dX2_watched_100 : decode cX2_watched 100 = .ok (.tableswitch 37 0 2 #[28, 31, 34], 28) := by decide +kernel
theorem dX2_watched_128 : decode cX2_watched 128 = .ok (.iload 4, 2) := by decide +kernel
theorem dX2_watched_130 : decode cX2_watched 130 = .ok (.ireturn, 1) := by decide +kernel
theorem dX2_watched_131 : decode cX2_watched 131 = .ok (.iload 5, 2) := by decide +kernel
theorem dX2_watched_133 : decode cX2_watched 133 = .ok (.ireturn, 1) := by decide +kernel
theorem dX2_watched_134 : decode cX2_watched 134 = .ok (.iload 6, 2) := by decide +kernel
theorem dX2_watched_136 : decode cX2_watched 136 = .ok (.ireturn, 1) := by decide +kernel
theorem dX2_watched_137 : decode cX2_watched 137 = .ok (.iload 4, 2) := by decide +kernel
theorem dX2_watched_139 : decode cX2_watched 139 = .ok (.iload 5, 2) := by decide +kernel
theorem dX2_watched_141 : decode cX2_watched 141 = .ok (.iadd, 1) := by decide +kernel
theorem dX2_watched_142 : decode cX2_watched 142 = .ok (.iload 6, 2) := by decide +kernel
theorem dX2_watched_144 : decode cX2_watched 144 = .ok (.isub, 1) := by decide +kernel
theorem dX2_watched_145 : decode cX2_watched 145 = .ok (.ireturn, 1) := by decide +kernel
theorem dX3_init_0 : decode cX3_init 0 = .ok (.aload_n 0, 1) := by decide +kernel
theorem dX3_init_1 : decode cX3_init 1 = .ok (.invokespecial 3, 3) := by decide +kernel
theorem dX3_init_4 : decode cX3_init 4 = .ok (.aload_n 0, 1) := by decide +kernel
theorem dX3_init_5 : decode cX3_init 5 = .ok (.iconst 0, 1) := by decide +kernel
theorem dX3_init_6 : decode cX3_init 6 = .ok (.putfield 9, 3) := by decide +kernel
theorem dX3_init_9 : decode cX3_init 9 = .ok (.aload_n 0, 1) := by decide +kernel
theorem dX3_init_10 : decode cX3_init 10 = .ok (.bipush (-9), 2) := by decide +kernel
theorem dX3_init_12 : decode cX3_init 12 = .ok (.putfield 15, 3) := by decide +kernel
theorem dX3_init_15 : decode cX3_init 15 = .ok (.aload_n 0, 1) := by decide +kernel
theorem dX3_init_16 : decode cX3_init 16 = .ok (.bipush (-9), 2) := by decide +kernel
theorem dX3_init_18 : decode cX3_init 18 = .ok (.putfield 18, 3) := by decide +kernel
theorem dX3_init_21 : decode cX3_init 21 = .ok (.aload_n 0, 1) := by decide +kernel
theorem dX3_init_22 : decode cX3_init 22 = .ok (.iload_n 1, 1) := by decide +kernel
theorem dX3_init_23 : decode cX3_init 23 = .ok (.putfield 21, 3) := by decide +kernel
theorem dX3_init_26 : decode cX3_init 26 = .ok (.aload_n 0, 1) := by decide +kernel
theorem dX3_init_27 : decode cX3_init 27 = .ok (.iload_n 2, 1) := by decide +kernel
theorem dX3_init_28 : decode cX3_init 28 = .ok (.putfield 24, 3) := by decide +kernel
theorem dX3_init_31 : decode cX3_init 31 = .ok (.aload_n 0, 1) := by decide +kernel
theorem dX3_init_32 : decode cX3_init 32 = .ok (.iload_n 3, 1) := by decide +kernel
theorem dX3_init_33 : decode cX3_init 33 = .ok (.putfield 27, 3) := by decide +kernel
theorem dX3_init_36 : decode cX3_init 36 = .ok (.aload_n 0, 1) := by decide +kernel
theorem dX3_init_37 : decode cX3_init 37 = .ok (.iload 4, 2) := by decide +kernel
theorem dX3_init_39 : decode cX3_init 39 = .ok (.putfield 30, 3) := by decide +kernel
theorem dX3_init_42 : decode cX3_init 42 = .ok (.aload_n 0, 1) := by decide +kernel
theorem dX3_init_43 : decode cX3_init 43 = .ok (.iload 5, 2) := by decide +kernel
theorem dX3_init_45 : decode cX3_init 45 = .ok (.putfield 33, 3) := by decide +kernel
theorem dX3_init_48 : decode cX3_init 48 = .ok (.return_, 1) := by decide +kernel
theorem dX3_isReplaced_0 : decode cX3_isReplaced 0 = .ok (.aload_n 0, 1) := by decide +kernel
theorem dX3_isReplaced_1 : decode cX3_isReplaced 1 = .ok (.getfield 15, 3) := by decide +kernel
theorem dX3_isReplaced_4 : decode cX3_isReplaced 4 = .ok (.bipush (-9), 2) := by decide +kernel
theorem dX3_isReplaced_6 : decode cX3_isReplaced 6 = .ok (.if_icmp .eq 7, 3) := by decide +kernel
theorem dX3_isReplaced_9 : decode cX3_isReplaced 9 = .ok (.iconst 1, 1) := by decide +kernel
theorem dX3_isReplaced_10 : decode cX3_isReplaced 10 = .ok (.goto 4, 3) := by decide +kernel
theorem dX3_isReplaced_13 : decode cX3_isReplaced 13 = .ok (.iconst 0, 1) := by decide +kernel
theorem dX3_isReplaced_14 : decode cX3_isReplaced 14 = .ok (.ireturn, 1) := by decide +kernel
theorem dX3_counts_0 : decode cX3_counts 0 = .ok (.aload_n 0, 1) := by decide +kernel
theorem dX3_counts_1 : decode cX3_counts 1 = .ok (.getfield 21, 3) := by decide +kernel
theorem dX3_counts_4 : decode cX3_counts 4 = .ok (.iload_n 1, 1) := by decide +kernel
theorem dX3_counts_5 : decode cX3_counts 5 = .ok (.if_icmp .ne 26, 3) := by decide +kernel
theorem dX3_counts_8 : decode cX3_counts 8 = .ok (.aload_n 0, 1) := by decide +kernel
theorem dX3_counts_9 : decode cX3_counts 9 = .ok (.getfield 24, 3) := by decide +kernel
theorem dX3_counts_12 : decode cX3_counts 12 = .ok (.iload_n 2, 1) := by decide +kernel
theorem dX3_counts_13 : decode cX3_counts 13 = .ok (.iload_n 3, 1) := by decide +kernel
theorem dX3_counts_14 : decode cX3_counts 14 = .ok (.invokestatic 36, 3) := by decide +kernel
theorem dX3_counts_17 : decode cX3_counts 17 = .ok (.ifCond .eq 14, 3) := by decide +kernel
theorem dX3_counts_20 : decode cX3_counts 20 = .ok (.aload_n 0, 1) := by decide +kernel
theorem dX3_counts_21 : decode cX3_counts 21 = .ok (.invokevirtual 40, 3) := by decide +kernel
theorem dX3_counts_24 : decode cX3_counts 24 = .ok (.ifCond .ne 7, 3) := by decide +kernel
theorem dX3_counts_27 : decode cX3_counts 27 = .ok (.iconst 1, 1) := by decide +kernel
theorem dX3_counts_28 : decode cX3_counts 28 = .ok (.goto 4, 3) := by decide +kernel
theorem dX3_counts_31 : decode cX3_counts 31 = .ok (.iconst 0, 1) := by decide +kernel
theorem dX3_counts_32 : decode cX3_counts 32 = .ok (.ireturn, 1) := by decide +kernel
theorem dX4_init_0 : decode cX4_init 0 = .ok (.aload_n 0, 1) := by decide +kernel
theorem dX4_init_1 : decode cX4_init 1 = .ok (.invokespecial 3, 3) := by decide +kernel
theorem dX4_init_4 : decode cX4_init 4 = .ok (.aload_n 0, 1) := by decide +kernel
theorem dX4_init_5 : decode cX4_init 5 = .ok (.bipush 6, 2) := by decide +kernel
theorem dX4_init_7 : decode cX4_init 7 = .ok (.anewarray 11, 3) := by decide +kernel
theorem dX4_init_10 : decode cX4_init 10 = .ok (.putfield 13, 3) := by decide +kernel
theorem dX4_init_13 : decode cX4_init 13 = .ok (.aload_n 0, 1) := by decide +kernel
theorem dX4_init_14 : decode cX4_init 14 = .ok (.iconst 0, 1) := by decide +kernel
theorem dX4_init_15 : decode cX4_init 15 = .ok (.putfield 17, 3) := by decide +kernel
theorem dX4_init_18 : decode cX4_init 18 = .ok (.aload_n 0, 1) := by decide +kernel
theorem dX4_init_19 : decode cX4_init 19 = .ok (.new 21, 3) := by decide +kernel
theorem dX4_init_22 : decode cX4_init 22 = .ok (.dup, 1) := by decide +kernel
theorem dX4_init_23 : decode cX4_init 23 = .ok (.invokespecial 23, 3) := by decide +kernel
theorem dX4_init_26 : decode cX4_init 26 = .ok (.putfield 24, 3) := by decide +kernel
theorem dX4_init_29 : decode cX4_init 29 = .ok (.aload_n 0, 1) := by decide +kernel
theorem dX4_init_30 : decode cX4_init 30 = .ok (.bipush 40, 2) := by decide +kernel
theorem dX4_init_32 : decode cX4_init 32 = .ok (.anewarray 28, 3) := by decide +kernel
theorem dX4_init_35 : decode cX4_init 35 = .ok (.putfield 30, 3) := by decide +kernel
theorem dX4_init_38 : decode cX4_init 38 = .ok (.aload_n 0, 1) := by decide +kernel
theorem dX4_init_39 : decode cX4_init 39 = .ok (.iconst 0, 1) := by decide +kernel
theorem dX4_init_40 : decode cX4_init 40 = .ok (.putfield 34, 3) := by decide +kernel
theorem dX4_init_43 : decode cX4_init 43 = .ok (.aload_n 0, 1) := by decide +kernel
theorem dX4_init_44 : decode cX4_init 44 = .ok (.bipush (-9), 2) := by decide +kernel
theorem dX4_init_46 : decode cX4_init 46 = .ok (.putfield 37, 3) := by decide +kernel
theorem dX4_init_49 : decode cX4_init 49 = .ok (.aload_n 0, 1) := by decide +kernel
theorem dX4_init_50 : decode cX4_init 50 = .ok (.iconst 4, 1) := by decide +kernel
theorem dX4_init_51 : decode cX4_init 51 = .ok (.anewarray 40, 3) := by decide +kernel
theorem dX4_init_54 : decode cX4_init 54 = .ok (.putfield 42, 3) := by decide +kernel
theorem dX4_init_57 : decode cX4_init 57 = .ok (.aload_n 0, 1) := by decide +kernel
theorem dX4_init_58 : decode cX4_init 58 = .ok (.iconst 0, 1) := by decide +kernel
theorem dX4_init_59 : decode cX4_init 59 = .ok (.putfield 46, 3) := by decide +kernel
theorem dX4_init_62 : decode cX4_init 62 = .ok (.aload_n 0, 1) := by decide +kernel
theorem dX4_init_63 : decode cX4_init 63 = .ok (.iconst 0, 1) := by decide +kernel
theorem dX4_init_64 : decode cX4_init 64 = .ok (.putfield 49, 3) := by decide +kernel
theorem dX4_init_67 : decode cX4_init 67 = .ok (.iconst 0, 1) := by decide +kernel
theorem dX4_init_68 : decode cX4_init 68 = .ok (.istore_n 1, 1) := by decide +kernel
theorem dX4_init_69 : decode cX4_init 69 = .ok (.iload_n 1, 1) := by decide +kernel
theorem dX4_init_70 : decode cX4_init 70 = .ok (.iconst 4, 1) := by decide +kernel
theorem dX4_init_71 : decode cX4_init 71 = .ok (.if_icmp .ge 22, 3) := by decide +kernel
theorem dX4_init_74 : decode cX4_init 74 = .ok (.aload_n 0, 1) := by decide +kernel
theorem dX4_init_75 : decode cX4_init 75 = .ok (.getfield 42, 3) := by decide +kernel
theorem dX4_init_78 : decode cX4_init 78 = .ok (.iload_n 1, 1) := by decide +kernel
theorem dX4_init_79 : decode cX4_init 79 = .ok (.new 40, 3) := by decide +kernel
theorem dX4_init_82 : decode cX4_init 82 = .ok (.dup, 1) := by decide +kernel
theorem dX4_init_83 : decode cX4_init 83 = .ok (.invokespecial 52, 3) := by decide +kernel
theorem dX4_init_86 : decode cX4_init 86 = .ok (.aastore, 1) := by decide +kernel
theorem dX4_init_87 : decode cX4_init 87 = .ok (.iinc 1 1, 3) := by decide +kernel
theorem dX4_init_90 : decode cX4_init 90 = .ok (.goto (-21), 3) := by decide +kernel
theorem dX4_init_93 : decode cX4_init 93 = .ok (.return_, 1) := by decide +kernel
theorem dX4_meter_0 : decode cX4_meter 0 = .ok (.iload_n 1, 1) := by decide +kernel
theorem dX4_meter_1 : decode cX4_meter 1 = .ok (.iconst 1, 1) := by decide +kernel
theorem dX4_meter_2 : decode cX4_meter 2 = .ok (.ldc 53, 2) := by decide +kernel
theorem dX4_meter_4 : decode cX4_meter 4 = .ok (.invokestatic 54, 3) := by decide +kernel
theorem dX4_meter_7 : decode cX4_meter 7 = .ok (.ifCond .ne 6, 3) := by decide +kernel
theorem dX4_meter_10 : decode cX4_meter 10 = .ok (.bipush (-2), 2) := by decide +kernel
theorem dX4_meter_12 : decode cX4_meter 12 = .ok (.ireturn, 1) := by decide +kernel
theorem dX4_meter_13 : decode cX4_meter 13 = .ok (.aload_n 0, 1) := by decide +kernel
theorem dX4_meter_14 : decode cX4_meter 14 = .ok (.getfield 17, 3) := by decide +kernel
theorem dX4_meter_17 : decode cX4_meter 17 = .ok (.bipush 6, 2) := by decide +kernel
theorem dX4_meter_19 : decode cX4_meter 19 = .ok (.if_icmp .lt 6, 3) := by decide +kernel
theorem dX4_meter_22 : decode cX4_meter 22 = .ok (.bipush (-4), 2) := by decide +kernel
theorem dX4_meter_24 : decode cX4_meter 24 = .ok (.ireturn, 1) := by decide +kernel
theorem dX4_meter_25 : decode cX4_meter 25 = .ok (.aload_n 0, 1) := by decide +kernel
theorem dX4_meter_26 : decode cX4_meter 26 = .ok (.getfield 13, 3) := by decide +kernel
theorem dX4_meter_29 : decode cX4_meter 29 = .ok (.aload_n 0, 1) := by decide +kernel
theorem dX4_meter_30 : decode cX4_meter 30 = .ok (.getfield 17, 3) := by decide +kernel
theorem dX4_meter_33 : decode cX4_meter 33 = .ok (.new 11, 3) := by decide +kernel
theorem dX4_meter_36 : decode cX4_meter 36 = .ok (.dup, 1) := by decide +kernel
theorem dX4_meter_37 : decode cX4_meter 37 = .ok (.iload_n 1, 1) := by decide +kernel
theorem dX4_meter_38 : decode cX4_meter 38 = .ok (.invokespecial 58, 3) := by decide +kernel
theorem dX4_meter_41 : decode cX4_meter 41 = .ok (.aastore, 1) := by decide +kernel
theorem dX4_meter_42 : decode cX4_meter 42 = .ok (.aload_n 0, 1) := by decide +kernel
theorem dX4_meter_43 : decode cX4_meter 43 = .ok (.dup, 1) := by decide +kernel
theorem dX4_meter_44 : decode cX4_meter 44 = .ok (.getfield 17, 3) := by decide +kernel
theorem dX4_meter_47 : decode cX4_meter 47 = .ok (.iconst 1, 1) := by decide +kernel
theorem dX4_meter_48 : decode cX4_meter 48 = .ok (.iadd, 1) := by decide +kernel
theorem dX4_meter_49 : decode cX4_meter 49 = .ok (.putfield 17, 3) := by decide +kernel
theorem dX4_meter_52 : decode cX4_meter 52 = .ok (.aload_n 0, 1) := by decide +kernel
theorem dX4_meter_53 : decode cX4_meter 53 = .ok (.getfield 17, 3) := by decide +kernel
theorem dX4_meter_56 : decode cX4_meter 56 = .ok (.iconst 1, 1) := by decide +kernel
theorem dX4_meter_57 : decode cX4_meter 57 = .ok (.isub, 1) := by decide +kernel
theorem dX4_meter_58 : decode cX4_meter 58 = .ok (.ireturn, 1) := by decide +kernel
theorem dX4_factor_0 : decode cX4_factor 0 = .ok (.aload_n 0, 1) := by decide +kernel
theorem dX4_factor_1 : decode cX4_factor 1 = .ok (.iload_n 1, 1) := by decide +kernel
theorem dX4_factor_2 : decode cX4_factor 2 = .ok (.invokevirtual 61, 3) := by decide +kernel
theorem dX4_factor_5 : decode cX4_factor 5 = .ok (.ifCond .ne 5, 3) := by decide +kernel
theorem dX4_factor_8 : decode cX4_factor 8 = .ok (.iconst (-1), 1) := by decide +kernel
theorem dX4_factor_9 : decode cX4_factor 9 = .ok (.ireturn, 1) := by decide +kernel
theorem dX4_factor_10 : decode cX4_factor 10 = .ok (.iload_n 2, 1) := by decide +kernel
theorem dX4_factor_11 : decode cX4_factor 11 = .ok (.invokestatic 65, 3) := by decide +kernel
theorem dX4_factor_14 : decode cX4_factor 14 = .ok (.ifCond .eq 22, 3) := by decide +kernel
theorem dX4_factor_17 : decode cX4_factor 17 = .ok (.iload_n 3, 1) := by decide +kernel
theorem dX4_factor_18 : decode cX4_factor 18 = .ok (.invokestatic 68, 3) := by decide +kernel
theorem dX4_factor_21 : decode cX4_factor 21 = .ok (.ifCond .eq 15, 3) := by decide +kernel
theorem dX4_factor_24 : decode cX4_factor 24 = .ok (.iload 4, 2) := by decide +kernel
theorem dX4_factor_26 : decode cX4_factor 26 = .ok (.ldc 71, 2) := by decide +kernel
theorem dX4_factor_28 : decode cX4_factor 28 = .ok (.ldc 72, 2) := by decide +kernel
theorem dX4_factor_30 : decode cX4_factor 30 = .ok (.invokestatic 54, 3) := by decide +kernel
theorem dX4_factor_33 : decode cX4_factor 33 = .ok (.ifCond .ne 6, 3) := by decide +kernel
theorem dX4_factor_36 : decode cX4_factor 36 = .ok (.bipush (-2), 2) := by decide +kernel
theorem dX4_factor_38 : decode cX4_factor 38 = .ok (.ireturn, 1) := by decide +kernel
theorem dX4_factor_39 : decode cX4_factor 39 = .ok (.aload_n 0, 1) := by decide +kernel
theorem dX4_factor_40 : decode cX4_factor 40 = .ok (.getfield 13, 3) := by decide +kernel
theorem dX4_factor_43 : decode cX4_factor 43 = .ok (.iload_n 1, 1) := by decide +kernel
theorem dX4_factor_44 : decode cX4_factor 44 = .ok (.aaload, 1) := by decide +kernel
theorem dX4_factor_45 : decode cX4_factor 45 = .ok (.astore 5, 2) := by decide +kernel
theorem dX4_factor_47 : decode cX4_factor 47 = .ok (.aload 5, 2) := by decide +kernel
theorem dX4_factor_49 : decode cX4_factor 49 = .ok (.invokevirtual 73, 3) := by decide +kernel
theorem dX4_factor_52 : decode cX4_factor 52 = .ok (.ifCond .eq 6, 3) := by decide +kernel
theorem dX4_factor_55 : decode cX4_factor 55 = .ok (.bipush (-4), 2) := by decide +kernel
theorem dX4_factor_57 : decode cX4_factor 57 = .ok (.ireturn, 1) := by decide +kernel
theorem dX4_factor_58 : decode cX4_factor 58 = .ok (.aload 5, 2) := by decide +kernel
theorem dX4_factor_60 : decode cX4_factor 60 = .ok (.iload_n 2, 1) := by decide +kernel
theorem dX4_factor_61 : decode cX4_factor 61 = .ok (.iload_n 3, 1) := by decide +kernel
theorem dX4_factor_62 : decode cX4_factor 62 = .ok (.iload 4, 2) := by decide +kernel
theorem dX4_factor_64 : decode cX4_factor 64 = .ok (.invokevirtual 77, 3) := by decide +kernel
theorem dX4_factor_67 : decode cX4_factor 67 = .ok (.aload 5, 2) := by decide +kernel
theorem dX4_factor_69 : decode cX4_factor 69 = .ok (.getfield 81, 3) := by decide +kernel
theorem dX4_factor_72 : decode cX4_factor 72 = .ok (.ireturn, 1) := by decide +kernel
theorem dX4_at_0 : decode cX4_at 0 = .ok (.aload_n 0, 1) := by decide +kernel
theorem dX4_at_1 : decode cX4_at 1 = .ok (.iload_n 1, 1) := by decide +kernel
theorem dX4_at_2 : decode cX4_at 2 = .ok (.invokevirtual 61, 3) := by decide +kernel
theorem dX4_at_5 : decode cX4_at 5 = .ok (.ifCond .ne 5, 3) := by decide +kernel
theorem dX4_at_8 : decode cX4_at 8 = .ok (.iconst (-1), 1) := by decide +kernel
theorem dX4_at_9 : decode cX4_at 9 = .ok (.ireturn, 1) := by decide +kernel
theorem dX4_at_10 : decode cX4_at 10 = .ok (.iload_n 2, 1) := by decide +kernel
theorem dX4_at_11 : decode cX4_at 11 = .ok (.invokestatic 65, 3) := by decide +kernel
theorem dX4_at_14 : decode cX4_at 14 = .ok (.ifCond .eq 10, 3) := by decide +kernel
theorem dX4_at_17 : decode cX4_at 17 = .ok (.iload_n 3, 1) := by decide +kernel
theorem dX4_at_18 : decode cX4_at 18 = .ok (.invokestatic 68, 3) := by decide +kernel
theorem dX4_at_21 : decode cX4_at 21 = .ok (.ifCond .ne 6, 3) := by decide +kernel
theorem dX4_at_24 : decode cX4_at 24 = .ok (.bipush (-2), 2) := by decide +kernel
theorem dX4_at_26 : decode cX4_at 26 = .ok (.ireturn, 1) := by decide +kernel
theorem dX4_at_27 : decode cX4_at 27 = .ok (.aload_n 0, 1) := by decide +kernel
theorem dX4_at_28 : decode cX4_at 28 = .ok (.getfield 13, 3) := by decide +kernel
theorem dX4_at_31 : decode cX4_at 31 = .ok (.iload_n 1, 1) := by decide +kernel
theorem dX4_at_32 : decode cX4_at 32 = .ok (.aaload, 1) := by decide +kernel
theorem dX4_at_33 : decode cX4_at 33 = .ok (.iload_n 2, 1) := by decide +kernel
theorem dX4_at_34 : decode cX4_at 34 = .ok (.iload_n 3, 1) := by decide +kernel
theorem dX4_at_35 : decode cX4_at 35 = .ok (.invokevirtual 84, 3) := by decide +kernel
theorem dX4_at_38 : decode cX4_at 38 = .ok (.ireturn, 1) := by decide +kernel
theorem dX4_points_0 : decode cX4_points 0 = .ok (.aload_n 0, 1) := by decide +kernel
theorem dX4_points_1 : decode cX4_points 1 = .ok (.iload_n 1, 1) := by decide +kernel
theorem dX4_points_2 : decode cX4_points 2 = .ok (.invokevirtual 61, 3) := by decide +kernel
theorem dX4_points_5 : decode cX4_points 5 = .ok (.ifCond .ne 5, 3) := by decide +kernel
theorem dX4_points_8 : decode cX4_points 8 = .ok (.iconst (-1), 1) := by decide +kernel
theorem dX4_points_9 : decode cX4_points 9 = .ok (.ireturn, 1) := by decide +kernel
theorem dX4_points_10 : decode cX4_points 10 = .ok (.iload_n 2, 1) := by decide +kernel
theorem dX4_points_11 : decode cX4_points 11 = .ok (.invokestatic 68, 3) := by decide +kernel
theorem dX4_points_14 : decode cX4_points 14 = .ok (.ifCond .ne 6, 3) := by decide +kernel
theorem dX4_points_17 : decode cX4_points 17 = .ok (.bipush (-2), 2) := by decide +kernel
theorem dX4_points_19 : decode cX4_points 19 = .ok (.ireturn, 1) := by decide +kernel
theorem dX4_points_20 : decode cX4_points 20 = .ok (.aload_n 0, 1) := by decide +kernel
theorem dX4_points_21 : decode cX4_points 21 = .ok (.getfield 13, 3) := by decide +kernel
theorem dX4_points_24 : decode cX4_points 24 = .ok (.iload_n 1, 1) := by decide +kernel
theorem dX4_points_25 : decode cX4_points 25 = .ok (.aaload, 1) := by decide +kernel
theorem dX4_points_26 : decode cX4_points 26 = .ok (.iload_n 2, 1) := by decide +kernel
theorem dX4_points_27 : decode cX4_points 27 = .ok (.invokevirtual 88, 3) := by decide +kernel
theorem dX4_points_30 : decode cX4_points 30 = .ok (.ireturn, 1) := by decide +kernel
theorem dX4_point_0 : decode cX4_point 0 = .ok (.aload_n 0, 1) := by decide +kernel
theorem dX4_point_1 : decode cX4_point 1 = .ok (.iload_n 1, 1) := by decide +kernel
theorem dX4_point_2 : decode cX4_point 2 = .ok (.invokevirtual 61, 3) := by decide +kernel
theorem dX4_point_5 : decode cX4_point 5 = .ok (.ifCond .ne 5, 3) := by decide +kernel
theorem dX4_point_8 : decode cX4_point 8 = .ok (.iconst (-1), 1) := by decide +kernel
theorem dX4_point_9 : decode cX4_point 9 = .ok (.ireturn, 1) := by decide +kernel
theorem dX4_point_10 : decode cX4_point 10 = .ok (.aload_n 0, 1) := by decide +kernel
theorem dX4_point_11 : decode cX4_point 11 = .ok (.getfield 13, 3) := by decide +kernel
theorem dX4_point_14 : decode cX4_point 14 = .ok (.iload_n 1, 1) := by decide +kernel
theorem dX4_point_15 : decode cX4_point 15 = .ok (.aaload, 1) := by decide +kernel
theorem dX4_point_16 : decode cX4_point 16 = .ok (.iload_n 2, 1) := by decide +kernel
theorem dX4_point_17 : decode cX4_point 17 = .ok (.iload_n 3, 1) := by decide +kernel
theorem dX4_point_18 : decode cX4_point 18 = .ok (.invokevirtual 92, 3) := by decide +kernel
theorem dX4_point_21 : decode cX4_point 21 = .ok (.istore 5, 2) := by decide +kernel
theorem dX4_point_23 : decode cX4_point 23 = .ok (.iload 5, 2) := by decide +kernel
theorem dX4_point_25 : decode cX4_point 25 = .ok (.bipush (-9), 2) := by decide +kernel
theorem dX4_point_27 : decode cX4_point 27 = .ok (.if_icmp .ne 5, 3) := by decide +kernel
theorem dX4_point_30 : decode cX4_point 30 = .ok (.iconst (-1), 1) := by decide +kernel
theorem dX4_point_31 : decode cX4_point 31 = .ok (.ireturn, 1) := by decide +kernel
theorem dX4_point_32 : decode cX4_point 32 = .ok (.iload_n 2, 1) := by decide +kernel
theorem dX4_point_33 : decode cX4_point 33 = .ok (.invokestatic 68, 3) := by decide +kernel
theorem dX4_point_36 : decode cX4_point 36 = .ok (.ifCond .eq 13, 3) := by decide +kernel
theorem dX4_point_39 : decode cX4_point 39 = .ok (.iload 4, 2) := by decide +kernel
theorem dX4_point_41 : decode cX4_point 41 = .ok (.iconst 0, 1) := by decide +kernel
theorem dX4_point_42 : decode cX4_point 42 = .ok (.iconst 1, 1) := by decide +kernel
theorem dX4_point_43 : decode cX4_point 43 = .ok (.invokestatic 54, 3) := by decide +kernel
theorem dX4_point_46 : decode cX4_point 46 = .ok (.ifCond .ne 6, 3) := by decide +kernel
theorem dX4_point_49 : decode cX4_point 49 = .ok (.bipush (-2), 2) := by decide +kernel
theorem dX4_point_51 : decode cX4_point 51 = .ok (.ireturn, 1) := by decide +kernel
theorem dX4_point_52 : decode cX4_point 52 = .ok (.iload 4, 2) := by decide +kernel
theorem dX4_point_54 : decode cX4_point 54 = .ok (.ifCond .ne 18, 3) := by decide +kernel
theorem dX4_point_57 : decode cX4_point 57 = .ok (.aload_n 0, 1) := by decide +kernel
theorem dX4_point_58 : decode cX4_point 58 = .ok (.getfield 13, 3) := by decide +kernel
theorem dX4_point_61 : decode cX4_point 61 = .ok (.iload_n 1, 1) := by decide +kernel
theorem dX4_point_62 : decode cX4_point 62 = .ok (.aaload, 1) := by decide +kernel
theorem dX4_point_63 : decode cX4_point 63 = .ok (.getfield 95, 3) := by decide +kernel
theorem dX4_point_66 : decode cX4_point 66 = .ok (.iload 5, 2) := by decide +kernel
theorem dX4_point_68 : decode cX4_point 68 = .ok (.iaload, 1) := by decide +kernel
theorem dX4_point_69 : decode cX4_point 69 = .ok (.goto 15, 3) := by decide +kernel
theorem dX4_point_72 : decode cX4_point 72 = .ok (.aload_n 0, 1) := by decide +kernel
theorem dX4_point_73 : decode cX4_point 73 = .ok (.getfield 13, 3) := by decide +kernel
theorem dX4_point_76 : decode cX4_point 76 = .ok (.iload_n 1, 1) := by decide +kernel
theorem dX4_point_77 : decode cX4_point 77 = .ok (.aaload, 1) := by decide +kernel
theorem dX4_point_78 : decode cX4_point 78 = .ok (.getfield 99, 3) := by decide +kernel
theorem dX4_point_81 : decode cX4_point 81 = .ok (.iload 5, 2) := by decide +kernel
theorem dX4_point_83 : decode cX4_point 83 = .ok (.iaload, 1) := by decide +kernel
theorem dX4_point_84 : decode cX4_point 84 = .ok (.ireturn, 1) := by decide +kernel
theorem dX4_proof_0 : decode cX4_proof 0 = .ok (.aload_n 0, 1) := by decide +kernel
theorem dX4_proof_1 : decode cX4_proof 1 = .ok (.iload_n 1, 1) := by decide +kernel
theorem dX4_proof_2 : decode cX4_proof 2 = .ok (.invokevirtual 61, 3) := by decide +kernel
theorem dX4_proof_5 : decode cX4_proof 5 = .ok (.ifCond .ne 5, 3) := by decide +kernel
theorem dX4_proof_8 : decode cX4_proof 8 = .ok (.iconst (-1), 1) := by decide +kernel
theorem dX4_proof_9 : decode cX4_proof 9 = .ok (.ireturn, 1) := by decide +kernel
theorem dX4_proof_10 : decode cX4_proof 10 = .ok (.iload_n 2, 1) := by decide +kernel
theorem dX4_proof_11 : decode cX4_proof 11 = .ok (.invokestatic 65, 3) := by decide +kernel
theorem dX4_proof_14 : decode cX4_proof 14 = .ok (.ifCond .eq 15, 3) := by decide +kernel
theorem dX4_proof_17 : decode cX4_proof 17 = .ok (.iload_n 3, 1) := by decide +kernel
theorem dX4_proof_18 : decode cX4_proof 18 = .ok (.sipush 1000, 3) := by decide +kernel
theorem dX4_proof_21 : decode cX4_proof 21 = .ok (.ldc 102, 2) := by decide +kernel
theorem dX4_proof_23 : decode cX4_proof 23 = .ok (.invokestatic 54, 3) := by decide +kernel
theorem dX4_proof_26 : decode cX4_proof 26 = .ok (.ifCond .ne 6, 3) := by decide +kernel
theorem dX4_proof_29 : decode cX4_proof 29 = .ok (.bipush (-2), 2) := by decide +kernel
theorem dX4_proof_31 : decode cX4_proof 31 = .ok (.ireturn, 1) := by decide +kernel
theorem dX4_proof_32 : decode cX4_proof 32 = .ok (.aload_n 0, 1) := by decide +kernel
theorem dX4_proof_33 : decode cX4_proof 33 = .ok (.getfield 24, 3) := by decide +kernel
theorem dX4_proof_36 : decode cX4_proof 36 = .ok (.iload_n 1, 1) := by decide +kernel
theorem dX4_proof_37 : decode cX4_proof 37 = .ok (.iload_n 2, 1) := by decide +kernel
theorem dX4_proof_38 : decode cX4_proof 38 = .ok (.iload_n 3, 1) := by decide +kernel
theorem dX4_proof_39 : decode cX4_proof 39 = .ok (.invokevirtual 103, 3) := by decide +kernel
theorem dX4_proof_42 : decode cX4_proof 42 = .ok (.iconst 1, 1) := by decide +kernel
theorem dX4_proof_43 : decode cX4_proof 43 = .ok (.ireturn, 1) := by decide +kernel
theorem dX4_run_0 : decode cX4_run 0 = .ok (.iload_n 1, 1) := by decide +kernel
theorem dX4_run_1 : decode cX4_run 1 = .ok (.iconst 1, 1) := by decide +kernel
theorem dX4_run_2 : decode cX4_run 2 = .ok (.ldc 53, 2) := by decide +kernel
theorem dX4_run_4 : decode cX4_run 4 = .ok (.invokestatic 54, 3) := by decide +kernel
theorem dX4_run_7 : decode cX4_run 7 = .ok (.ifCond .eq 23, 3) := by decide +kernel
theorem dX4_run_10 : decode cX4_run 10 = .ok (.iload_n 2, 1) := by decide +kernel
theorem dX4_run_11 : decode cX4_run 11 = .ok (.iconst 1, 1) := by decide +kernel
theorem dX4_run_12 : decode cX4_run 12 = .ok (.ldc 102, 2) := by decide +kernel
theorem dX4_run_14 : decode cX4_run 14 = .ok (.invokestatic 54, 3) := by decide +kernel
theorem dX4_run_17 : decode cX4_run 17 = .ok (.ifCond .eq 13, 3) := by decide +kernel
theorem dX4_run_20 : decode cX4_run 20 = .ok (.iload_n 3, 1) := by decide +kernel
theorem dX4_run_21 : decode cX4_run 21 = .ok (.iconst 1, 1) := by decide +kernel
theorem dX4_run_22 : decode cX4_run 22 = .ok (.ldc 102, 2) := by decide +kernel
theorem dX4_run_24 : decode cX4_run 24 = .ok (.invokestatic 54, 3) := by decide +kernel
theorem dX4_run_27 : decode cX4_run 27 = .ok (.ifCond .ne 7, 3) := by decide +kernel
theorem dX4_run_30 : decode cX4_run 30 = .ok (.ldc2_w 106, 3) := by decide +kernel
theorem dX4_run_33 : decode cX4_run 33 = .ok (.lreturn, 1) := by decide +kernel
theorem dX4_run_34 : decode cX4_run 34 = .ok (.aload_n 0, 1) := by decide +kernel
theorem dX4_run_35 : decode cX4_run 35 = .ok (.getfield 24, 3) := by decide +kernel
theorem dX4_run_38 : decode cX4_run 38 = .ok (.getfield 108, 3) := by decide +kernel
theorem dX4_run_41 : decode cX4_run 41 = .ok (.ifCond .eq 15, 3) := by decide +kernel
theorem dX4_run_44 : decode cX4_run 44 = .ok (.aload_n 0, 1) := by decide +kernel
theorem dX4_run_45 : decode cX4_run 45 = .ok (.getfield 24, 3) := by decide +kernel
theorem dX4_run_48 : decode cX4_run 48 = .ok (.getfield 112, 3) := by decide +kernel
theorem dX4_run_51 : decode cX4_run 51 = .ok (.bipush 12, 2) := by decide +kernel
theorem dX4_run_53 : decode cX4_run 53 = .ok (.if_icmp .lt 7, 3) := by decide +kernel
theorem dX4_run_56 : decode cX4_run 56 = .ok (.ldc2_w 106, 3) := by decide +kernel
theorem dX4_run_59 : decode cX4_run 59 = .ok (.lreturn, 1) := by decide +kernel
theorem dX4_run_60 : decode cX4_run 60 = .ok (.ldc2_w 115, 3) := by decide +kernel
theorem dX4_run_63 : decode cX4_run 63 = .ok (.iload_n 1, 1) := by decide +kernel
theorem dX4_run_64 : decode cX4_run 64 = .ok (.i2l, 1) := by decide +kernel
theorem dX4_run_65 : decode cX4_run 65 = .ok (.lmul, 1) := by decide +kernel
theorem dX4_run_66 : decode cX4_run 66 = .ok (.iload_n 3, 1) := by decide +kernel
theorem dX4_run_67 : decode cX4_run 67 = .ok (.i2l, 1) := by decide +kernel
theorem dX4_run_68 : decode cX4_run 68 = .ok (.lmul, 1) := by decide +kernel
theorem dX4_run_69 : decode cX4_run 69 = .ok (.iload_n 2, 1) := by decide +kernel
theorem dX4_run_70 : decode cX4_run 70 = .ok (.i2l, 1) := by decide +kernel
theorem dX4_run_71 : decode cX4_run 71 = .ok (.ldiv, 1) := by decide +kernel
theorem dX4_run_72 : decode cX4_run 72 = .ok (.lstore 4, 2) := by decide +kernel
theorem dX4_run_74 : decode cX4_run 74 = .ok (.aload_n 0, 1) := by decide +kernel
theorem dX4_run_75 : decode cX4_run 75 = .ok (.getfield 24, 3) := by decide +kernel
theorem dX4_run_78 : decode cX4_run 78 = .ok (.getfield 117, 3) := by decide +kernel
theorem dX4_run_81 : decode cX4_run 81 = .ok (.aload_n 0, 1) := by decide +kernel
theorem dX4_run_82 : decode cX4_run 82 = .ok (.getfield 24, 3) := by decide +kernel
theorem dX4_run_85 : decode cX4_run 85 = .ok (.getfield 112, 3) := by decide +kernel
theorem dX4_run_88 : decode cX4_run 88 = .ok (.lload 4, 2) := by decide +kernel
theorem dX4_run_90 : decode cX4_run 90 = .ok (.lastore, 1) := by decide +kernel
theorem dX4_run_91 : decode cX4_run 91 = .ok (.aload_n 0, 1) := by decide +kernel
theorem dX4_run_92 : decode cX4_run 92 = .ok (.getfield 24, 3) := by decide +kernel
theorem dX4_run_95 : decode cX4_run 95 = .ok (.dup, 1) := by decide +kernel
theorem dX4_run_96 : decode cX4_run 96 = .ok (.getfield 112, 3) := by decide +kernel
theorem dX4_run_99 : decode cX4_run 99 = .ok (.iconst 1, 1) := by decide +kernel
theorem dX4_run_100 : decode cX4_run 100 = .ok (.iadd, 1) := by decide +kernel
theorem dX4_run_101 : decode cX4_run 101 = .ok (.putfield 112, 3) := by decide +kernel
theorem dX4_run_104 : decode cX4_run 104 = .ok (.lload 4, 2) := by decide +kernel
theorem dX4_run_106 : decode cX4_run 106 = .ok (.lreturn, 1) := by decide +kernel
theorem dX4_proving_0 : decode cX4_proving 0 = .ok (.iload_n 1, 1) := by decide +kernel
theorem dX4_proving_1 : decode cX4_proving 1 = .ok (.iconst 0, 1) := by decide +kernel
theorem dX4_proving_2 : decode cX4_proving 2 = .ok (.iconst 3, 1) := by decide +kernel
theorem dX4_proving_3 : decode cX4_proving 3 = .ok (.invokestatic 54, 3) := by decide +kernel
theorem dX4_proving_6 : decode cX4_proving 6 = .ok (.ifCond .ne 6, 3) := by decide +kernel
theorem dX4_proving_9 : decode cX4_proving 9 = .ok (.bipush (-2), 2) := by decide +kernel
theorem dX4_proving_11 : decode cX4_proving 11 = .ok (.ireturn, 1) := by decide +kernel
theorem dX4_proving_12 : decode cX4_proving 12 = .ok (.aload_n 0, 1) := by decide +kernel
theorem dX4_proving_13 : decode cX4_proving 13 = .ok (.getfield 24, 3) := by decide +kernel
theorem dX4_proving_16 : decode cX4_proving 16 = .ok (.getfield 108, 3) := by decide +kernel
theorem dX4_proving_19 : decode cX4_proving 19 = .ok (.ifCond .ne 6, 3) := by decide +kernel
theorem dX4_proving_22 : decode cX4_proving 22 = .ok (.bipush (-3), 2) := by decide +kernel
theorem dX4_proving_24 : decode cX4_proving 24 = .ok (.ireturn, 1) := by decide +kernel
theorem dX4_proving_25 : decode cX4_proving 25 = .ok (.iload_n 1, 1) := by decide +kernel
theorem dX4_proving_26 : decode cX4_proving 26 = .ok (.tableswitch 58 0 2 #[26, 34, 50], 26) := by decide +kernel
theorem dX4_proving_52 : decode cX4_proving 52 = .ok (.aload_n 0, 1) := by decide +kernel
theorem dX4_proving_53 : decode cX4_proving 53 = .ok (.getfield 24, 3) := by decide +kernel
theorem dX4_proving_56 : decode cX4_proving 56 = .ok (.getfield 112, 3) := by decide +kernel
theorem dX4_proving_59 : decode cX4_proving 59 = .ok (.ireturn, 1) := by decide +kernel
theorem dX4_proving_60 : decode cX4_proving 60 = .ok (.aload_n 0, 1) := by decide +kernel
theorem dX4_proving_61 : decode cX4_proving 61 = .ok (.getfield 24, 3) := by decide +kernel
theorem dX4_proving_64 : decode cX4_proving 64 = .ok (.invokevirtual 121, 3) := by decide +kernel
theorem dX4_proving_67 : decode cX4_proving 67 = .ok (.ifCond .eq 7, 3) := by decide +kernel
theorem dX4_proving_70 : decode cX4_proving 70 = .ok (.iconst 1, 1) := by decide +kernel
theorem dX4_proving_71 : decode cX4_proving 71 = .ok (.goto 4, 3) := by decide +kernel
theorem dX4_proving_74 : decode cX4_proving 74 = .ok (.iconst 0, 1) := by decide +kernel
theorem dX4_proving_75 : decode cX4_proving 75 = .ok (.ireturn, 1) := by decide +kernel
theorem dX4_proving_76 : decode cX4_proving 76 = .ok (.aload_n 0, 1) := by decide +kernel
theorem dX4_proving_77 : decode cX4_proving 77 = .ok (.getfield 24, 3) := by decide +kernel
theorem dX4_proving_80 : decode cX4_proving 80 = .ok (.getfield 124, 3) := by decide +kernel
theorem dX4_proving_83 : decode cX4_proving 83 = .ok (.ireturn, 1) := by decide +kernel
theorem dX4_proving_84 : decode cX4_proving 84 = .ok (.aload_n 0, 1) := by decide +kernel
theorem dX4_proving_85 : decode cX4_proving 85 = .ok (.getfield 24, 3) := by decide +kernel
theorem dX4_proving_88 : decode cX4_proving 88 = .ok (.getfield 127, 3) := by decide +kernel
theorem dX4_proving_91 : decode cX4_proving 91 = .ok (.ireturn, 1) := by decide +kernel
theorem dX4_accept_0 : decode cX4_accept 0 = .ok (.iload_n 1, 1) := by decide +kernel
theorem dX4_accept_1 : decode cX4_accept 1 = .ok (.invokestatic 68, 3) := by decide +kernel
theorem dX4_accept_4 : decode cX4_accept 4 = .ok (.ifCond .ne 6, 3) := by decide +kernel
theorem dX4_accept_7 : decode cX4_accept 7 = .ok (.bipush (-2), 2) := by decide +kernel
theorem dX4_accept_9 : decode cX4_accept 9 = .ok (.ireturn, 1) := by decide +kernel
theorem dX4_accept_10 : decode cX4_accept 10 = .ok (.aload_n 0, 1) := by decide +kernel
theorem dX4_accept_11 : decode cX4_accept 11 = .ok (.getfield 24, 3) := by decide +kernel
theorem dX4_accept_14 : decode cX4_accept 14 = .ok (.getfield 108, 3) := by decide +kernel
theorem dX4_accept_17 : decode cX4_accept 17 = .ok (.ifCond .eq 13, 3) := by decide +kernel
theorem dX4_accept_20 : decode cX4_accept 20 = .ok (.aload_n 0, 1) := by decide +kernel
theorem dX4_accept_21 : decode cX4_accept 21 = .ok (.getfield 24, 3) := by decide +kernel
theorem dX4_accept_24 : decode cX4_accept 24 = .ok (.invokevirtual 121, 3) := by decide +kernel
theorem dX4_accept_27 : decode cX4_accept 27 = .ok (.ifCond .ne 6, 3) := by decide +kernel
theorem dX4_accept_30 : decode cX4_accept 30 = .ok (.bipush (-3), 2) := by decide +kernel
theorem dX4_accept_32 : decode cX4_accept 32 = .ok (.ireturn, 1) := by decide +kernel
theorem dX4_accept_33 : decode cX4_accept 33 = .ok (.aload_n 0, 1) := by decide +kernel
theorem dX4_accept_34 : decode cX4_accept 34 = .ok (.getfield 13, 3) := by decide +kernel
theorem dX4_accept_37 : decode cX4_accept 37 = .ok (.aload_n 0, 1) := by decide +kernel
theorem dX4_accept_38 : decode cX4_accept 38 = .ok (.getfield 24, 3) := by decide +kernel
theorem dX4_accept_41 : decode cX4_accept 41 = .ok (.getfield 124, 3) := by decide +kernel
theorem dX4_accept_44 : decode cX4_accept 44 = .ok (.aaload, 1) := by decide +kernel
theorem dX4_accept_45 : decode cX4_accept 45 = .ok (.astore_n 2, 1) := by decide +kernel
theorem dX4_accept_46 : decode cX4_accept 46 = .ok (.aload_n 0, 1) := by decide +kernel
theorem dX4_accept_47 : decode cX4_accept 47 = .ok (.getfield 24, 3) := by decide +kernel
theorem dX4_accept_50 : decode cX4_accept 50 = .ok (.aload_n 2, 1) := by decide +kernel
theorem dX4_accept_51 : decode cX4_accept 51 = .ok (.getfield 130, 3) := by decide +kernel
theorem dX4_accept_54 : decode cX4_accept 54 = .ok (.invokevirtual 133, 3) := by decide +kernel
theorem dX4_accept_57 : decode cX4_accept 57 = .ok (.lstore_n 3, 1) := by decide +kernel
theorem dX4_accept_58 : decode cX4_accept 58 = .ok (.lload_n 3, 1) := by decide +kernel
theorem dX4_accept_59 : decode cX4_accept 59 = .ok (.ldc2_w 137, 3) := by decide +kernel
theorem dX4_accept_62 : decode cX4_accept 62 = .ok (.lcmp, 1) := by decide +kernel
theorem dX4_accept_63 : decode cX4_accept 63 = .ok (.ifCond .lt 11, 3) := by decide +kernel
theorem dX4_accept_66 : decode cX4_accept 66 = .ok (.lload_n 3, 1) := by decide +kernel
theorem dX4_accept_67 : decode cX4_accept 67 = .ok (.ldc2_w 139, 3) := by decide +kernel
theorem dX4_accept_70 : decode cX4_accept 70 = .ok (.lcmp, 1) := by decide +kernel
theorem dX4_accept_71 : decode cX4_accept 71 = .ok (.ifCond .le 6, 3) := by decide +kernel
theorem dX4_accept_74 : decode cX4_accept 74 = .ok (.bipush (-9), 2) := by decide +kernel
theorem dX4_accept_76 : decode cX4_accept 76 = .ok (.ireturn, 1) := by decide +kernel
theorem dX4_accept_77 : decode cX4_accept 77 = .ok (.aload_n 2, 1) := by decide +kernel
theorem dX4_accept_78 : decode cX4_accept 78 = .ok (.invokevirtual 73, 3) := by decide +kernel
theorem dX4_accept_81 : decode cX4_accept 81 = .ok (.ifCond .eq 6, 3) := by decide +kernel
theorem dX4_accept_84 : decode cX4_accept 84 = .ok (.bipush (-4), 2) := by decide +kernel
theorem dX4_accept_86 : decode cX4_accept 86 = .ok (.ireturn, 1) := by decide +kernel
theorem dX4_accept_87 : decode cX4_accept 87 = .ok (.aload_n 2, 1) := by decide +kernel
theorem dX4_accept_88 : decode cX4_accept 88 = .ok (.aload_n 0, 1) := by decide +kernel
theorem dX4_accept_89 : decode cX4_accept 89 = .ok (.getfield 24, 3) := by decide +kernel
theorem dX4_accept_92 : decode cX4_accept 92 = .ok (.getfield 127, 3) := by decide +kernel
theorem dX4_accept_95 : decode cX4_accept 95 = .ok (.iload_n 1, 1) := by decide +kernel
theorem dX4_accept_96 : decode cX4_accept 96 = .ok (.lload_n 3, 1) := by decide +kernel
theorem dX4_accept_97 : decode cX4_accept 97 = .ok (.l2i, 1) := by decide +kernel
theorem dX4_accept_98 : decode cX4_accept 98 = .ok (.invokevirtual 77, 3) := by decide +kernel
theorem dX4_accept_101 : decode cX4_accept 101 = .ok (.aload_n 0, 1) := by decide +kernel
theorem dX4_accept_102 : decode cX4_accept 102 = .ok (.getfield 24, 3) := by decide +kernel
theorem dX4_accept_105 : decode cX4_accept 105 = .ok (.iconst 0, 1) := by decide +kernel
theorem dX4_accept_106 : decode cX4_accept 106 = .ok (.putfield 108, 3) := by decide +kernel
theorem dX4_accept_109 : decode cX4_accept 109 = .ok (.lload_n 3, 1) := by decide +kernel
theorem dX4_accept_110 : decode cX4_accept 110 = .ok (.l2i, 1) := by decide +kernel
theorem dX4_accept_111 : decode cX4_accept 111 = .ok (.ireturn, 1) := by decide +kernel
theorem dX4_ticket_0 : decode cX4_ticket 0 = .ok (.aload_n 0, 1) := by decide +kernel
theorem dX4_ticket_1 : decode cX4_ticket 1 = .ok (.iload_n 1, 1) := by decide +kernel
theorem dX4_ticket_2 : decode cX4_ticket 2 = .ok (.invokevirtual 61, 3) := by decide +kernel
theorem dX4_ticket_5 : decode cX4_ticket 5 = .ok (.ifCond .ne 5, 3) := by decide +kernel
theorem dX4_ticket_8 : decode cX4_ticket 8 = .ok (.iconst (-1), 1) := by decide +kernel
theorem dX4_ticket_9 : decode cX4_ticket 9 = .ok (.ireturn, 1) := by decide +kernel
theorem dX4_ticket_10 : decode cX4_ticket 10 = .ok (.iload_n 2, 1) := by decide +kernel
theorem dX4_ticket_11 : decode cX4_ticket 11 = .ok (.invokestatic 68, 3) := by decide +kernel
theorem dX4_ticket_14 : decode cX4_ticket 14 = .ok (.ifCond .eq 21, 3) := by decide +kernel
theorem dX4_ticket_17 : decode cX4_ticket 17 = .ok (.iload_n 3, 1) := by decide +kernel
theorem dX4_ticket_18 : decode cX4_ticket 18 = .ok (.iconst 0, 1) := by decide +kernel
theorem dX4_ticket_19 : decode cX4_ticket 19 = .ok (.ldc 141, 2) := by decide +kernel
theorem dX4_ticket_21 : decode cX4_ticket 21 = .ok (.invokestatic 54, 3) := by decide +kernel
theorem dX4_ticket_24 : decode cX4_ticket 24 = .ok (.ifCond .eq 11, 3) := by decide +kernel
theorem dX4_ticket_27 : decode cX4_ticket 27 = .ok (.iload 4, 2) := by decide +kernel
theorem dX4_ticket_29 : decode cX4_ticket 29 = .ok (.invokestatic 65, 3) := by decide +kernel
theorem dX4_ticket_32 : decode cX4_ticket 32 = .ok (.ifCond .ne 6, 3) := by decide +kernel
theorem dX4_ticket_35 : decode cX4_ticket 35 = .ok (.bipush (-2), 2) := by decide +kernel
theorem dX4_ticket_37 : decode cX4_ticket 37 = .ok (.ireturn, 1) := by decide +kernel
theorem dX4_ticket_38 : decode cX4_ticket 38 = .ok (.aload_n 0, 1) := by decide +kernel
theorem dX4_ticket_39 : decode cX4_ticket 39 = .ok (.iload_n 2, 1) := by decide +kernel
theorem dX4_ticket_40 : decode cX4_ticket 40 = .ok (.invokevirtual 142, 3) := by decide +kernel
theorem dX4_ticket_43 : decode cX4_ticket 43 = .ok (.ifCond .eq 6, 3) := by decide +kernel
theorem dX4_ticket_46 : decode cX4_ticket 46 = .ok (.bipush (-3), 2) := by decide +kernel
theorem dX4_ticket_48 : decode cX4_ticket 48 = .ok (.ireturn, 1) := by decide +kernel
theorem dX4_ticket_49 : decode cX4_ticket 49 = .ok (.aload_n 0, 1) := by decide +kernel
theorem dX4_ticket_50 : decode cX4_ticket 50 = .ok (.getfield 34, 3) := by decide +kernel
theorem dX4_ticket_53 : decode cX4_ticket 53 = .ok (.bipush 40, 2) := by decide +kernel
theorem dX4_ticket_55 : decode cX4_ticket 55 = .ok (.if_icmp .lt 6, 3) := by decide +kernel
theorem dX4_ticket_58 : decode cX4_ticket 58 = .ok (.bipush (-4), 2) := by decide +kernel
theorem dX4_ticket_60 : decode cX4_ticket 60 = .ok (.ireturn, 1) := by decide +kernel
theorem dX4_ticket_61 : decode cX4_ticket 61 = .ok (.aload_n 0, 1) := by decide +kernel
theorem dX4_ticket_62 : decode cX4_ticket 62 = .ok (.new 28, 3) := by decide +kernel
theorem dX4_ticket_65 : decode cX4_ticket 65 = .ok (.dup, 1) := by decide +kernel
theorem dX4_ticket_66 : decode cX4_ticket 66 = .ok (.iload_n 1, 1) := by decide +kernel
theorem dX4_ticket_67 : decode cX4_ticket 67 = .ok (.iload_n 2, 1) := by decide +kernel
theorem dX4_ticket_68 : decode cX4_ticket 68 = .ok (.iload_n 3, 1) := by decide +kernel
theorem dX4_ticket_69 : decode cX4_ticket 69 = .ok (.iload 4, 2) := by decide +kernel
theorem dX4_ticket_71 : decode cX4_ticket 71 = .ok (.aload_n 0, 1) := by decide +kernel
theorem dX4_ticket_72 : decode cX4_ticket 72 = .ok (.getfield 13, 3) := by decide +kernel
theorem dX4_ticket_75 : decode cX4_ticket 75 = .ok (.iload_n 1, 1) := by decide +kernel
theorem dX4_ticket_76 : decode cX4_ticket 76 = .ok (.aaload, 1) := by decide +kernel
theorem dX4_ticket_77 : decode cX4_ticket 77 = .ok (.iload 4, 2) := by decide +kernel
theorem dX4_ticket_79 : decode cX4_ticket 79 = .ok (.iload_n 2, 1) := by decide +kernel
theorem dX4_ticket_80 : decode cX4_ticket 80 = .ok (.invokevirtual 84, 3) := by decide +kernel
theorem dX4_ticket_83 : decode cX4_ticket 83 = .ok (.invokespecial 145, 3) := by decide +kernel
theorem dX4_ticket_86 : decode cX4_ticket 86 = .ok (.invokevirtual 148, 3) := by decide +kernel
theorem dX4_ticket_89 : decode cX4_ticket 89 = .ok (.aload_n 0, 1) := by decide +kernel
theorem dX4_ticket_90 : decode cX4_ticket 90 = .ok (.getfield 34, 3) := by decide +kernel
theorem dX4_ticket_93 : decode cX4_ticket 93 = .ok (.iconst 1, 1) := by decide +kernel
theorem dX4_ticket_94 : decode cX4_ticket 94 = .ok (.isub, 1) := by decide +kernel
theorem dX4_ticket_95 : decode cX4_ticket 95 = .ok (.ireturn, 1) := by decide +kernel
theorem dX4_right_0 : decode cX4_right 0 = .ok (.aload_n 0, 1) := by decide +kernel
theorem dX4_right_1 : decode cX4_right 1 = .ok (.iload_n 1, 1) := by decide +kernel
theorem dX4_right_2 : decode cX4_right 2 = .ok (.invokevirtual 152, 3) := by decide +kernel
theorem dX4_right_5 : decode cX4_right 5 = .ok (.ifCond .ne 5, 3) := by decide +kernel
theorem dX4_right_8 : decode cX4_right 8 = .ok (.iconst (-1), 1) := by decide +kernel
theorem dX4_right_9 : decode cX4_right 9 = .ok (.ireturn, 1) := by decide +kernel
theorem dX4_right_10 : decode cX4_right 10 = .ok (.iload_n 2, 1) := by decide +kernel
theorem dX4_right_11 : decode cX4_right 11 = .ok (.iconst 0, 1) := by decide +kernel
theorem dX4_right_12 : decode cX4_right 12 = .ok (.ldc 141, 2) := by decide +kernel
theorem dX4_right_14 : decode cX4_right 14 = .ok (.invokestatic 54, 3) := by decide +kernel
theorem dX4_right_17 : decode cX4_right 17 = .ok (.ifCond .ne 6, 3) := by decide +kernel
theorem dX4_right_20 : decode cX4_right 20 = .ok (.bipush (-2), 2) := by decide +kernel
theorem dX4_right_22 : decode cX4_right 22 = .ok (.ireturn, 1) := by decide +kernel
theorem dX4_right_23 : decode cX4_right 23 = .ok (.aload_n 0, 1) := by decide +kernel
theorem dX4_right_24 : decode cX4_right 24 = .ok (.getfield 30, 3) := by decide +kernel
theorem dX4_right_27 : decode cX4_right 27 = .ok (.iload_n 1, 1) := by decide +kernel
theorem dX4_right_28 : decode cX4_right 28 = .ok (.aaload, 1) := by decide +kernel
theorem dX4_right_29 : decode cX4_right 29 = .ok (.invokevirtual 155, 3) := by decide +kernel
theorem dX4_right_32 : decode cX4_right 32 = .ok (.ifCond .ne 19, 3) := by decide +kernel
theorem dX4_right_35 : decode cX4_right 35 = .ok (.aload_n 0, 1) := by decide +kernel
theorem dX4_right_36 : decode cX4_right 36 = .ok (.aload_n 0, 1) := by decide +kernel
theorem dX4_right_37 : decode cX4_right 37 = .ok (.getfield 30, 3) := by decide +kernel
theorem dX4_right_40 : decode cX4_right 40 = .ok (.iload_n 1, 1) := by decide +kernel
theorem dX4_right_41 : decode cX4_right 41 = .ok (.aaload, 1) := by decide +kernel
theorem dX4_right_42 : decode cX4_right 42 = .ok (.getfield 158, 3) := by decide +kernel
theorem dX4_right_45 : decode cX4_right 45 = .ok (.invokevirtual 142, 3) := by decide +kernel
theorem dX4_right_48 : decode cX4_right 48 = .ok (.ifCond .eq 6, 3) := by decide +kernel
theorem dX4_right_51 : decode cX4_right 51 = .ok (.bipush (-3), 2) := by decide +kernel
theorem dX4_right_53 : decode cX4_right 53 = .ok (.ireturn, 1) := by decide +kernel
theorem dX4_right_54 : decode cX4_right 54 = .ok (.aload_n 0, 1) := by decide +kernel
theorem dX4_right_55 : decode cX4_right 55 = .ok (.getfield 34, 3) := by decide +kernel
theorem dX4_right_58 : decode cX4_right 58 = .ok (.bipush 40, 2) := by decide +kernel
theorem dX4_right_60 : decode cX4_right 60 = .ok (.if_icmp .lt 6, 3) := by decide +kernel
theorem dX4_right_63 : decode cX4_right 63 = .ok (.bipush (-4), 2) := by decide +kernel
theorem dX4_right_65 : decode cX4_right 65 = .ok (.ireturn, 1) := by decide +kernel
theorem dX4_right_66 : decode cX4_right 66 = .ok (.aload_n 0, 1) := by decide +kernel
theorem dX4_right_67 : decode cX4_right 67 = .ok (.iload_n 1, 1) := by decide +kernel
theorem dX4_right_68 : decode cX4_right 68 = .ok (.iconst 1, 1) := by decide +kernel
theorem dX4_right_69 : decode cX4_right 69 = .ok (.iload_n 2, 1) := by decide +kernel
theorem dX4_right_70 : decode cX4_right 70 = .ok (.invokevirtual 161, 3) := by decide +kernel
theorem dX4_right_73 : decode cX4_right 73 = .ok (.aload_n 0, 1) := by decide +kernel
theorem dX4_right_74 : decode cX4_right 74 = .ok (.getfield 34, 3) := by decide +kernel
theorem dX4_right_77 : decode cX4_right 77 = .ok (.iconst 1, 1) := by decide +kernel
theorem dX4_right_78 : decode cX4_right 78 = .ok (.isub, 1) := by decide +kernel
theorem dX4_right_79 : decode cX4_right 79 = .ok (.ireturn, 1) := by decide +kernel
theorem dX4_remake_0 : decode cX4_remake 0 = .ok (.aload_n 0, 1) := by decide +kernel
theorem dX4_remake_1 : decode cX4_remake 1 = .ok (.iload_n 1, 1) := by decide +kernel
theorem dX4_remake_2 : decode cX4_remake 2 = .ok (.invokevirtual 61, 3) := by decide +kernel
theorem dX4_remake_5 : decode cX4_remake 5 = .ok (.ifCond .ne 5, 3) := by decide +kernel
theorem dX4_remake_8 : decode cX4_remake 8 = .ok (.iconst (-1), 1) := by decide +kernel
theorem dX4_remake_9 : decode cX4_remake 9 = .ok (.ireturn, 1) := by decide +kernel
theorem dX4_remake_10 : decode cX4_remake 10 = .ok (.iload_n 2, 1) := by decide +kernel
theorem dX4_remake_11 : decode cX4_remake 11 = .ok (.iload_n 3, 1) := by decide +kernel
theorem dX4_remake_12 : decode cX4_remake 12 = .ok (.invokestatic 164, 3) := by decide +kernel
theorem dX4_remake_15 : decode cX4_remake 15 = .ok (.ifCond .ne 6, 3) := by decide +kernel
theorem dX4_remake_18 : decode cX4_remake 18 = .ok (.bipush (-2), 2) := by decide +kernel
theorem dX4_remake_20 : decode cX4_remake 20 = .ok (.ireturn, 1) := by decide +kernel
theorem dX4_remake_21 : decode cX4_remake 21 = .ok (.aload_n 0, 1) := by decide +kernel
theorem dX4_remake_22 : decode cX4_remake 22 = .ok (.iload_n 2, 1) := by decide +kernel
theorem dX4_remake_23 : decode cX4_remake 23 = .ok (.invokevirtual 142, 3) := by decide +kernel
theorem dX4_remake_26 : decode cX4_remake 26 = .ok (.ifCond .eq 6, 3) := by decide +kernel
theorem dX4_remake_29 : decode cX4_remake 29 = .ok (.bipush (-3), 2) := by decide +kernel
theorem dX4_remake_31 : decode cX4_remake 31 = .ok (.ireturn, 1) := by decide +kernel
theorem dX4_remake_32 : decode cX4_remake 32 = .ok (.aload_n 0, 1) := by decide +kernel
theorem dX4_remake_33 : decode cX4_remake 33 = .ok (.getfield 34, 3) := by decide +kernel
theorem dX4_remake_36 : decode cX4_remake 36 = .ok (.istore 4, 2) := by decide +kernel
theorem dX4_remake_38 : decode cX4_remake 38 = .ok (.iconst 0, 1) := by decide +kernel
theorem dX4_remake_39 : decode cX4_remake 39 = .ok (.istore 5, 2) := by decide +kernel
theorem dX4_remake_41 : decode cX4_remake 41 = .ok (.iconst 0, 1) := by decide +kernel
theorem dX4_remake_42 : decode cX4_remake 42 = .ok (.istore 6, 2) := by decide +kernel
theorem dX4_remake_44 : decode cX4_remake 44 = .ok (.iload 6, 2) := by decide +kernel
theorem dX4_remake_46 : decode cX4_remake 46 = .ok (.iload 4, 2) := by decide +kernel
theorem dX4_remake_48 : decode cX4_remake 48 = .ok (.if_icmp .ge 36, 3) := by decide +kernel
theorem dX4_remake_51 : decode cX4_remake 51 = .ok (.iload 5, 2) := by decide +kernel
theorem dX4_remake_53 : decode cX4_remake 53 = .ok (.aload_n 0, 1) := by decide +kernel
theorem dX4_remake_54 : decode cX4_remake 54 = .ok (.aload_n 0, 1) := by decide +kernel
theorem dX4_remake_55 : decode cX4_remake 55 = .ok (.getfield 30, 3) := by decide +kernel
theorem dX4_remake_58 : decode cX4_remake 58 = .ok (.iload 6, 2) := by decide +kernel
theorem dX4_remake_60 : decode cX4_remake 60 = .ok (.aaload, 1) := by decide +kernel
theorem dX4_remake_61 : decode cX4_remake 61 = .ok (.iload_n 1, 1) := by decide +kernel
theorem dX4_remake_62 : decode cX4_remake 62 = .ok (.iload_n 2, 1) := by decide +kernel
theorem dX4_remake_63 : decode cX4_remake 63 = .ok (.iload_n 3, 1) := by decide +kernel
theorem dX4_remake_64 : decode cX4_remake 64 = .ok (.invokevirtual 168, 3) := by decide +kernel
theorem dX4_remake_67 : decode cX4_remake 67 = .ok (.ifCond .eq 7, 3) := by decide +kernel
theorem dX4_remake_70 : decode cX4_remake 70 = .ok (.iconst 1, 1) := by decide +kernel
theorem dX4_remake_71 : decode cX4_remake 71 = .ok (.goto 4, 3) := by decide +kernel
theorem dX4_remake_74 : decode cX4_remake 74 = .ok (.iconst 0, 1) := by decide +kernel
theorem dX4_remake_75 : decode cX4_remake 75 = .ok (.iadd, 1) := by decide +kernel
theorem dX4_remake_76 : decode cX4_remake 76 = .ok (.istore 5, 2) := by decide +kernel
theorem dX4_remake_78 : decode cX4_remake 78 = .ok (.iinc 6 1, 3) := by decide +kernel
theorem dX4_remake_81 : decode cX4_remake 81 = .ok (.goto (-37), 3) := by decide +kernel
theorem dX4_remake_84 : decode cX4_remake 84 = .ok (.iload 5, 2) := by decide +kernel
theorem dX4_remake_86 : decode cX4_remake 86 = .ok (.bipush 40, 2) := by decide +kernel
theorem dX4_remake_88 : decode cX4_remake 88 = .ok (.iload 4, 2) := by decide +kernel
theorem dX4_remake_90 : decode cX4_remake 90 = .ok (.isub, 1) := by decide +kernel
theorem dX4_remake_91 : decode cX4_remake 91 = .ok (.if_icmp .le 6, 3) := by decide +kernel
theorem dX4_remake_94 : decode cX4_remake 94 = .ok (.bipush (-4), 2) := by decide +kernel
theorem dX4_remake_96 : decode cX4_remake 96 = .ok (.ireturn, 1) := by decide +kernel
theorem dX4_remake_97 : decode cX4_remake 97 = .ok (.iconst 0, 1) := by decide +kernel
theorem dX4_remake_98 : decode cX4_remake 98 = .ok (.istore 6, 2) := by decide +kernel
theorem dX4_remake_100 : decode cX4_remake 100 = .ok (.iload 6, 2) := by decide +kernel
theorem dX4_remake_102 : decode cX4_remake 102 = .ok (.iload 4, 2) := by decide +kernel
theorem dX4_remake_104 : decode cX4_remake 104 = .ok (.if_icmp .ge 43, 3) := by decide +kernel
theorem dX4_remake_107 : decode cX4_remake 107 = .ok (.aload_n 0, 1) := by decide +kernel
theorem dX4_remake_108 : decode cX4_remake 108 = .ok (.aload_n 0, 1) := by decide +kernel
theorem dX4_remake_109 : decode cX4_remake 109 = .ok (.getfield 30, 3) := by decide +kernel
theorem dX4_remake_112 : decode cX4_remake 112 = .ok (.iload 6, 2) := by decide +kernel
theorem dX4_remake_114 : decode cX4_remake 114 = .ok (.aaload, 1) := by decide +kernel
theorem dX4_remake_115 : decode cX4_remake 115 = .ok (.iload_n 1, 1) := by decide +kernel
theorem dX4_remake_116 : decode cX4_remake 116 = .ok (.iload_n 2, 1) := by decide +kernel
theorem dX4_remake_117 : decode cX4_remake 117 = .ok (.iload_n 3, 1) := by decide +kernel
theorem dX4_remake_118 : decode cX4_remake 118 = .ok (.invokevirtual 168, 3) := by decide +kernel
theorem dX4_remake_121 : decode cX4_remake 121 = .ok (.ifCond .eq 20, 3) := by decide +kernel
theorem dX4_remake_124 : decode cX4_remake 124 = .ok (.aload_n 0, 1) := by decide +kernel
theorem dX4_remake_125 : decode cX4_remake 125 = .ok (.iload 6, 2) := by decide +kernel
theorem dX4_remake_127 : decode cX4_remake 127 = .ok (.iconst 2, 1) := by decide +kernel
theorem dX4_remake_128 : decode cX4_remake 128 = .ok (.aload_n 0, 1) := by decide +kernel
theorem dX4_remake_129 : decode cX4_remake 129 = .ok (.getfield 30, 3) := by decide +kernel
theorem dX4_remake_132 : decode cX4_remake 132 = .ok (.iload 6, 2) := by decide +kernel
theorem dX4_remake_134 : decode cX4_remake 134 = .ok (.aaload, 1) := by decide +kernel
theorem dX4_remake_135 : decode cX4_remake 135 = .ok (.getfield 172, 3) := by decide +kernel
theorem dX4_remake_138 : decode cX4_remake 138 = .ok (.invokevirtual 161, 3) := by decide +kernel
theorem dX4_remake_141 : decode cX4_remake 141 = .ok (.iinc 6 1, 3) := by decide +kernel
theorem dX4_remake_144 : decode cX4_remake 144 = .ok (.goto (-44), 3) := by decide +kernel
theorem dX4_remake_147 : decode cX4_remake 147 = .ok (.iload 5, 2) := by decide +kernel
theorem dX4_remake_149 : decode cX4_remake 149 = .ok (.ireturn, 1) := by decide +kernel
theorem dX4_ticketed_0 : decode cX4_ticketed 0 = .ok (.aload_n 0, 1) := by decide +kernel
theorem dX4_ticketed_1 : decode cX4_ticketed 1 = .ok (.iload_n 1, 1) := by decide +kernel
theorem dX4_ticketed_2 : decode cX4_ticketed 2 = .ok (.invokevirtual 152, 3) := by decide +kernel
theorem dX4_ticketed_5 : decode cX4_ticketed 5 = .ok (.ifCond .ne 5, 3) := by decide +kernel
theorem dX4_ticketed_8 : decode cX4_ticketed 8 = .ok (.iconst (-1), 1) := by decide +kernel
theorem dX4_ticketed_9 : decode cX4_ticketed 9 = .ok (.ireturn, 1) := by decide +kernel
theorem dX4_ticketed_10 : decode cX4_ticketed 10 = .ok (.aload_n 0, 1) := by decide +kernel
theorem dX4_ticketed_11 : decode cX4_ticketed 11 = .ok (.getfield 30, 3) := by decide +kernel
theorem dX4_ticketed_14 : decode cX4_ticketed 14 = .ok (.iload_n 1, 1) := by decide +kernel
theorem dX4_ticketed_15 : decode cX4_ticketed 15 = .ok (.aaload, 1) := by decide +kernel
theorem dX4_ticketed_16 : decode cX4_ticketed 16 = .ok (.astore_n 3, 1) := by decide +kernel
theorem dX4_ticketed_17 : decode cX4_ticketed 17 = .ok (.iload_n 2, 1) := by decide +kernel
theorem dX4_ticketed_18 : decode cX4_ticketed 18 = .ok (.tableswitch 86 0 7 #[46, 51, 56, 61, 66, 71, 76, 81], 46) := by decide +kernel
theorem dX4_ticketed_64 : decode cX4_ticketed 64 = .ok (.aload_n 3, 1) := by decide +kernel
theorem dX4_ticketed_65 : decode cX4_ticketed 65 = .ok (.getfield 175, 3) := by decide +kernel
theorem dX4_ticketed_68 : decode cX4_ticketed 68 = .ok (.ireturn, 1) := by decide +kernel
theorem dX4_ticketed_69 : decode cX4_ticketed 69 = .ok (.aload_n 3, 1) := by decide +kernel
theorem dX4_ticketed_70 : decode cX4_ticketed 70 = .ok (.getfield 178, 3) := by decide +kernel
theorem dX4_ticketed_73 : decode cX4_ticketed 73 = .ok (.ireturn, 1) := by decide +kernel
theorem dX4_ticketed_74 : decode cX4_ticketed 74 = .ok (.aload_n 3, 1) := by decide +kernel
theorem dX4_ticketed_75 : decode cX4_ticketed 75 = .ok (.getfield 158, 3) := by decide +kernel
theorem dX4_ticketed_78 : decode cX4_ticketed 78 = .ok (.ireturn, 1) := by decide +kernel
theorem dX4_ticketed_79 : decode cX4_ticketed 79 = .ok (.aload_n 3, 1) := by decide +kernel
theorem dX4_ticketed_80 : decode cX4_ticketed 80 = .ok (.getfield 172, 3) := by decide +kernel
theorem dX4_ticketed_83 : decode cX4_ticketed 83 = .ok (.ireturn, 1) := by decide +kernel
theorem dX4_ticketed_84 : decode cX4_ticketed 84 = .ok (.aload_n 3, 1) := by decide +kernel
theorem dX4_ticketed_85 : decode cX4_ticketed 85 = .ok (.getfield 179, 3) := by decide +kernel
theorem dX4_ticketed_88 : decode cX4_ticketed 88 = .ok (.ireturn, 1) := by decide +kernel
theorem dX4_ticketed_89 : decode cX4_ticketed 89 = .ok (.aload_n 3, 1) := by decide +kernel
theorem dX4_ticketed_90 : decode cX4_ticketed 90 = .ok (.getfield 180, 3) := by decide +kernel
theorem dX4_ticketed_93 : decode cX4_ticketed 93 = .ok (.ireturn, 1) := by decide +kernel
theorem dX4_ticketed_94 : decode cX4_ticketed 94 = .ok (.aload_n 3, 1) := by decide +kernel
theorem dX4_ticketed_95 : decode cX4_ticketed 95 = .ok (.getfield 183, 3) := by decide +kernel
theorem dX4_ticketed_98 : decode cX4_ticketed 98 = .ok (.ireturn, 1) := by decide +kernel
theorem dX4_ticketed_99 : decode cX4_ticketed 99 = .ok (.aload_n 3, 1) := by decide +kernel
theorem dX4_ticketed_100 : decode cX4_ticketed 100 = .ok (.getfield 186, 3) := by decide +kernel
theorem dX4_ticketed_103 : decode cX4_ticketed 103 = .ok (.ireturn, 1) := by decide +kernel
theorem dX4_ticketed_104 : decode cX4_ticketed 104 = .ok (.bipush (-2), 2) := by decide +kernel
theorem dX4_ticketed_106 : decode cX4_ticketed 106 = .ok (.ireturn, 1) := by decide +kernel
theorem dX4_volume_0 : decode cX4_volume 0 = .ok (.aload_n 0, 1) := by decide +kernel
theorem dX4_volume_1 : decode cX4_volume 1 = .ok (.iload_n 1, 1) := by decide +kernel
theorem dX4_volume_2 : decode cX4_volume 2 = .ok (.invokevirtual 152, 3) := by decide +kernel
theorem dX4_volume_5 : decode cX4_volume 5 = .ok (.ifCond .eq 16, 3) := by decide +kernel
theorem dX4_volume_8 : decode cX4_volume 8 = .ok (.aload_n 0, 1) := by decide +kernel
theorem dX4_volume_9 : decode cX4_volume 9 = .ok (.aload_n 0, 1) := by decide +kernel
theorem dX4_volume_10 : decode cX4_volume 10 = .ok (.getfield 30, 3) := by decide +kernel
theorem dX4_volume_13 : decode cX4_volume 13 = .ok (.iload_n 1, 1) := by decide +kernel
theorem dX4_volume_14 : decode cX4_volume 14 = .ok (.aaload, 1) := by decide +kernel
theorem dX4_volume_15 : decode cX4_volume 15 = .ok (.invokevirtual 189, 3) := by decide +kernel
theorem dX4_volume_18 : decode cX4_volume 18 = .ok (.goto 6, 3) := by decide +kernel
theorem dX4_volume_21 : decode cX4_volume 21 = .ok (.ldc2_w 106, 3) := by decide +kernel
theorem dX4_volume_24 : decode cX4_volume 24 = .ok (.lreturn, 1) := by decide +kernel
theorem dX4_sum_0 : decode cX4_sum 0 = .ok (.aload_n 0, 1) := by decide +kernel
theorem dX4_sum_1 : decode cX4_sum 1 = .ok (.iload_n 1, 1) := by decide +kernel
theorem dX4_sum_2 : decode cX4_sum 2 = .ok (.invokevirtual 61, 3) := by decide +kernel
theorem dX4_sum_5 : decode cX4_sum 5 = .ok (.ifCond .eq 21, 3) := by decide +kernel
theorem dX4_sum_8 : decode cX4_sum 8 = .ok (.iload_n 2, 1) := by decide +kernel
theorem dX4_sum_9 : decode cX4_sum 9 = .ok (.iload_n 3, 1) := by decide +kernel
theorem dX4_sum_10 : decode cX4_sum 10 = .ok (.invokestatic 164, 3) := by decide +kernel
theorem dX4_sum_13 : decode cX4_sum 13 = .ok (.ifCond .eq 13, 3) := by decide +kernel
theorem dX4_sum_16 : decode cX4_sum 16 = .ok (.aload_n 0, 1) := by decide +kernel
theorem dX4_sum_17 : decode cX4_sum 17 = .ok (.iload_n 1, 1) := by decide +kernel
theorem dX4_sum_18 : decode cX4_sum 18 = .ok (.iload_n 2, 1) := by decide +kernel
theorem dX4_sum_19 : decode cX4_sum 19 = .ok (.iload_n 3, 1) := by decide +kernel
theorem dX4_sum_20 : decode cX4_sum 20 = .ok (.invokevirtual 193, 3) := by decide +kernel
theorem dX4_sum_23 : decode cX4_sum 23 = .ok (.goto 6, 3) := by decide +kernel
theorem dX4_sum_26 : decode cX4_sum 26 = .ok (.ldc2_w 106, 3) := by decide +kernel
theorem dX4_sum_29 : decode cX4_sum 29 = .ok (.lreturn, 1) := by decide +kernel
theorem dX4_shut_0 : decode cX4_shut 0 = .ok (.iload_n 1, 1) := by decide +kernel
theorem dX4_shut_1 : decode cX4_shut 1 = .ok (.invokestatic 68, 3) := by decide +kernel
theorem dX4_shut_4 : decode cX4_shut 4 = .ok (.ifCond .eq 11, 3) := by decide +kernel
theorem dX4_shut_7 : decode cX4_shut 7 = .ok (.iload_n 1, 1) := by decide +kernel
theorem dX4_shut_8 : decode cX4_shut 8 = .ok (.aload_n 0, 1) := by decide +kernel
theorem dX4_shut_9 : decode cX4_shut 9 = .ok (.getfield 37, 3) := by decide +kernel
theorem dX4_shut_12 : decode cX4_shut 12 = .ok (.if_icmp .ge 6, 3) := by decide +kernel
theorem dX4_shut_15 : decode cX4_shut 15 = .ok (.bipush (-2), 2) := by decide +kernel
theorem dX4_shut_17 : decode cX4_shut 17 = .ok (.ireturn, 1) := by decide +kernel
theorem dX4_shut_18 : decode cX4_shut 18 = .ok (.aload_n 0, 1) := by decide +kernel
theorem dX4_shut_19 : decode cX4_shut 19 = .ok (.getfield 37, 3) := by decide +kernel
theorem dX4_shut_22 : decode cX4_shut 22 = .ok (.istore_n 2, 1) := by decide +kernel
theorem dX4_shut_23 : decode cX4_shut 23 = .ok (.aload_n 0, 1) := by decide +kernel
theorem dX4_shut_24 : decode cX4_shut 24 = .ok (.iload_n 1, 1) := by decide +kernel
theorem dX4_shut_25 : decode cX4_shut 25 = .ok (.putfield 37, 3) := by decide +kernel
theorem dX4_shut_28 : decode cX4_shut 28 = .ok (.iload_n 2, 1) := by decide +kernel
theorem dX4_shut_29 : decode cX4_shut 29 = .ok (.ireturn, 1) := by decide +kernel
theorem dX4_line_0 : decode cX4_line 0 = .ok (.iload_n 1, 1) := by decide +kernel
theorem dX4_line_1 : decode cX4_line 1 = .ok (.invokestatic 197, 3) := by decide +kernel
theorem dX4_line_4 : decode cX4_line 4 = .ok (.ifCond .eq 11, 3) := by decide +kernel
theorem dX4_line_7 : decode cX4_line 7 = .ok (.aload_n 0, 1) := by decide +kernel
theorem dX4_line_8 : decode cX4_line 8 = .ok (.iload_n 2, 1) := by decide +kernel
theorem dX4_line_9 : decode cX4_line 9 = .ok (.invokevirtual 61, 3) := by decide +kernel
theorem dX4_line_12 : decode cX4_line 12 = .ok (.ifCond .ne 5, 3) := by decide +kernel
theorem dX4_line_15 : decode cX4_line 15 = .ok (.iconst (-1), 1) := by decide +kernel
theorem dX4_line_16 : decode cX4_line 16 = .ok (.ireturn, 1) := by decide +kernel
theorem dX4_line_17 : decode cX4_line 17 = .ok (.iload_n 3, 1) := by decide +kernel
theorem dX4_line_18 : decode cX4_line 18 = .ok (.iconst (-1), 1) := by decide +kernel
theorem dX4_line_19 : decode cX4_line 19 = .ok (.iconst 1, 1) := by decide +kernel
theorem dX4_line_20 : decode cX4_line 20 = .ok (.invokestatic 54, 3) := by decide +kernel
theorem dX4_line_23 : decode cX4_line 23 = .ok (.ifCond .ne 6, 3) := by decide +kernel
theorem dX4_line_26 : decode cX4_line 26 = .ok (.bipush (-2), 2) := by decide +kernel
theorem dX4_line_28 : decode cX4_line 28 = .ok (.ireturn, 1) := by decide +kernel
theorem dX4_line_29 : decode cX4_line 29 = .ok (.aload_n 0, 1) := by decide +kernel
theorem dX4_line_30 : decode cX4_line 30 = .ok (.getfield 13, 3) := by decide +kernel
theorem dX4_line_33 : decode cX4_line 33 = .ok (.iload_n 2, 1) := by decide +kernel
theorem dX4_line_34 : decode cX4_line 34 = .ok (.aaload, 1) := by decide +kernel
theorem dX4_line_35 : decode cX4_line 35 = .ok (.getfield 200, 3) := by decide +kernel
theorem dX4_line_38 : decode cX4_line 38 = .ok (.iload_n 1, 1) := by decide +kernel
theorem dX4_line_39 : decode cX4_line 39 = .ok (.iaload, 1) := by decide +kernel
theorem dX4_line_40 : decode cX4_line 40 = .ok (.istore 4, 2) := by decide +kernel
theorem dX4_line_42 : decode cX4_line 42 = .ok (.aload_n 0, 1) := by decide +kernel
theorem dX4_line_43 : decode cX4_line 43 = .ok (.getfield 13, 3) := by decide +kernel
theorem dX4_line_46 : decode cX4_line 46 = .ok (.iload_n 2, 1) := by decide +kernel
theorem dX4_line_47 : decode cX4_line 47 = .ok (.aaload, 1) := by decide +kernel
theorem dX4_line_48 : decode cX4_line 48 = .ok (.getfield 200, 3) := by decide +kernel
theorem dX4_line_51 : decode cX4_line 51 = .ok (.iload_n 1, 1) := by decide +kernel
theorem dX4_line_52 : decode cX4_line 52 = .ok (.iload_n 3, 1) := by decide +kernel
theorem dX4_line_53 : decode cX4_line 53 = .ok (.iastore, 1) := by decide +kernel
theorem dX4_line_54 : decode cX4_line 54 = .ok (.iload 4, 2) := by decide +kernel
theorem dX4_line_56 : decode cX4_line 56 = .ok (.iload_n 3, 1) := by decide +kernel
theorem dX4_line_57 : decode cX4_line 57 = .ok (.if_icmp .ne 7, 3) := by decide +kernel
theorem dX4_line_60 : decode cX4_line 60 = .ok (.iconst 0, 1) := by decide +kernel
theorem dX4_line_61 : decode cX4_line 61 = .ok (.goto 4, 3) := by decide +kernel
theorem dX4_line_64 : decode cX4_line 64 = .ok (.iconst 1, 1) := by decide +kernel
theorem dX4_line_65 : decode cX4_line 65 = .ok (.ireturn, 1) := by decide +kernel
theorem dX4_lined_0 : decode cX4_lined 0 = .ok (.iload_n 1, 1) := by decide +kernel
theorem dX4_lined_1 : decode cX4_lined 1 = .ok (.invokestatic 197, 3) := by decide +kernel
theorem dX4_lined_4 : decode cX4_lined 4 = .ok (.ifCond .eq 28, 3) := by decide +kernel
theorem dX4_lined_7 : decode cX4_lined 7 = .ok (.aload_n 0, 1) := by decide +kernel
theorem dX4_lined_8 : decode cX4_lined 8 = .ok (.iload_n 2, 1) := by decide +kernel
theorem dX4_lined_9 : decode cX4_lined 9 = .ok (.invokevirtual 61, 3) := by decide +kernel
theorem dX4_lined_12 : decode cX4_lined 12 = .ok (.ifCond .eq 20, 3) := by decide +kernel
theorem dX4_lined_15 : decode cX4_lined 15 = .ok (.bipush 10, 2) := by decide +kernel
theorem dX4_lined_17 : decode cX4_lined 17 = .ok (.aload_n 0, 1) := by decide +kernel
theorem dX4_lined_18 : decode cX4_lined 18 = .ok (.getfield 13, 3) := by decide +kernel
theorem dX4_lined_21 : decode cX4_lined 21 = .ok (.iload_n 2, 1) := by decide +kernel
theorem dX4_lined_22 : decode cX4_lined 22 = .ok (.aaload, 1) := by decide +kernel
theorem dX4_lined_23 : decode cX4_lined 23 = .ok (.getfield 200, 3) := by decide +kernel
theorem dX4_lined_26 : decode cX4_lined 26 = .ok (.iload_n 1, 1) := by decide +kernel
theorem dX4_lined_27 : decode cX4_lined 27 = .ok (.iaload, 1) := by decide +kernel
theorem dX4_lined_28 : decode cX4_lined 28 = .ok (.iadd, 1) := by decide +kernel
theorem dX4_lined_29 : decode cX4_lined 29 = .ok (.goto 4, 3) := by decide +kernel
theorem dX4_lined_32 : decode cX4_lined 32 = .ok (.iconst (-1), 1) := by decide +kernel
theorem dX4_lined_33 : decode cX4_lined 33 = .ok (.ireturn, 1) := by decide +kernel
theorem dX4_end_0 : decode cX4_end 0 = .ok (.aload_n 0, 1) := by decide +kernel
theorem dX4_end_1 : decode cX4_end 1 = .ok (.iload_n 1, 1) := by decide +kernel
theorem dX4_end_2 : decode cX4_end 2 = .ok (.invokevirtual 61, 3) := by decide +kernel
theorem dX4_end_5 : decode cX4_end 5 = .ok (.ifCond .ne 5, 3) := by decide +kernel
theorem dX4_end_8 : decode cX4_end 8 = .ok (.iconst (-1), 1) := by decide +kernel
theorem dX4_end_9 : decode cX4_end 9 = .ok (.ireturn, 1) := by decide +kernel
theorem dX4_end_10 : decode cX4_end 10 = .ok (.iload_n 2, 1) := by decide +kernel
theorem dX4_end_11 : decode cX4_end 11 = .ok (.iconst 0, 1) := by decide +kernel
theorem dX4_end_12 : decode cX4_end 12 = .ok (.sipush 5000, 3) := by decide +kernel
theorem dX4_end_15 : decode cX4_end 15 = .ok (.invokestatic 54, 3) := by decide +kernel
theorem dX4_end_18 : decode cX4_end 18 = .ok (.ifCond .ne 6, 3) := by decide +kernel
theorem dX4_end_21 : decode cX4_end 21 = .ok (.bipush (-2), 2) := by decide +kernel
theorem dX4_end_23 : decode cX4_end 23 = .ok (.ireturn, 1) := by decide +kernel
theorem dX4_end_24 : decode cX4_end 24 = .ok (.aload_n 0, 1) := by decide +kernel
theorem dX4_end_25 : decode cX4_end 25 = .ok (.getfield 13, 3) := by decide +kernel
theorem dX4_end_28 : decode cX4_end 28 = .ok (.iload_n 1, 1) := by decide +kernel
theorem dX4_end_29 : decode cX4_end 29 = .ok (.aaload, 1) := by decide +kernel
theorem dX4_end_30 : decode cX4_end 30 = .ok (.getfield 203, 3) := by decide +kernel
theorem dX4_end_33 : decode cX4_end 33 = .ok (.istore_n 3, 1) := by decide +kernel
theorem dX4_end_34 : decode cX4_end 34 = .ok (.aload_n 0, 1) := by decide +kernel
theorem dX4_end_35 : decode cX4_end 35 = .ok (.getfield 13, 3) := by decide +kernel
theorem dX4_end_38 : decode cX4_end 38 = .ok (.iload_n 1, 1) := by decide +kernel
theorem dX4_end_39 : decode cX4_end 39 = .ok (.aaload, 1) := by decide +kernel
theorem dX4_end_40 : decode cX4_end 40 = .ok (.iload_n 2, 1) := by decide +kernel
theorem dX4_end_41 : decode cX4_end 41 = .ok (.putfield 203, 3) := by decide +kernel
theorem dX4_end_44 : decode cX4_end 44 = .ok (.iload_n 3, 1) := by decide +kernel
theorem dX4_end_45 : decode cX4_end 45 = .ok (.ireturn, 1) := by decide +kernel
theorem dX4_balance_0 : decode cX4_balance 0 = .ok (.iload_n 1, 1) := by decide +kernel
theorem dX4_balance_1 : decode cX4_balance 1 = .ok (.invokestatic 197, 3) := by decide +kernel
theorem dX4_balance_4 : decode cX4_balance 4 = .ok (.ifCond .eq 21, 3) := by decide +kernel
theorem dX4_balance_7 : decode cX4_balance 7 = .ok (.iload 4, 2) := by decide +kernel
theorem dX4_balance_9 : decode cX4_balance 9 = .ok (.iconst 0, 1) := by decide +kernel
theorem dX4_balance_10 : decode cX4_balance 10 = .ok (.iconst 1, 1) := by decide +kernel
theorem dX4_balance_11 : decode cX4_balance 11 = .ok (.invokestatic 54, 3) := by decide +kernel
theorem dX4_balance_14 : decode cX4_balance 14 = .ok (.ifCond .eq 11, 3) := by decide +kernel
theorem dX4_balance_17 : decode cX4_balance 17 = .ok (.iload_n 2, 1) := by decide +kernel
theorem dX4_balance_18 : decode cX4_balance 18 = .ok (.iload_n 3, 1) := by decide +kernel
theorem dX4_balance_19 : decode cX4_balance 19 = .ok (.invokestatic 164, 3) := by decide +kernel
theorem dX4_balance_22 : decode cX4_balance 22 = .ok (.ifCond .ne 7, 3) := by decide +kernel
theorem dX4_balance_25 : decode cX4_balance 25 = .ok (.ldc2_w 106, 3) := by decide +kernel
theorem dX4_balance_28 : decode cX4_balance 28 = .ok (.lreturn, 1) := by decide +kernel
theorem dX4_balance_29 : decode cX4_balance 29 = .ok (.iload 4, 2) := by decide +kernel
theorem dX4_balance_31 : decode cX4_balance 31 = .ok (.ifCond .ne 13, 3) := by decide +kernel
theorem dX4_balance_34 : decode cX4_balance 34 = .ok (.aload_n 0, 1) := by decide +kernel
theorem dX4_balance_35 : decode cX4_balance 35 = .ok (.iload_n 1, 1) := by decide +kernel
theorem dX4_balance_36 : decode cX4_balance 36 = .ok (.iload_n 2, 1) := by decide +kernel
theorem dX4_balance_37 : decode cX4_balance 37 = .ok (.iload_n 3, 1) := by decide +kernel
theorem dX4_balance_38 : decode cX4_balance 38 = .ok (.invokevirtual 206, 3) := by decide +kernel
theorem dX4_balance_41 : decode cX4_balance 41 = .ok (.goto 10, 3) := by decide +kernel
theorem dX4_balance_44 : decode cX4_balance 44 = .ok (.aload_n 0, 1) := by decide +kernel
theorem dX4_balance_45 : decode cX4_balance 45 = .ok (.iload_n 1, 1) := by decide +kernel
theorem dX4_balance_46 : decode cX4_balance 46 = .ok (.iload_n 2, 1) := by decide +kernel
theorem dX4_balance_47 : decode cX4_balance 47 = .ok (.iload_n 3, 1) := by decide +kernel
theorem dX4_balance_48 : decode cX4_balance 48 = .ok (.invokevirtual 209, 3) := by decide +kernel
theorem dX4_balance_51 : decode cX4_balance 51 = .ok (.lreturn, 1) := by decide +kernel
theorem dX4_beyond_0 : decode cX4_beyond 0 = .ok (.iload_n 1, 1) := by decide +kernel
theorem dX4_beyond_1 : decode cX4_beyond 1 = .ok (.iload_n 2, 1) := by decide +kernel
theorem dX4_beyond_2 : decode cX4_beyond 2 = .ok (.invokestatic 164, 3) := by decide +kernel
theorem dX4_beyond_5 : decode cX4_beyond 5 = .ok (.ifCond .eq 12, 3) := by decide +kernel
theorem dX4_beyond_8 : decode cX4_beyond 8 = .ok (.aload_n 0, 1) := by decide +kernel
theorem dX4_beyond_9 : decode cX4_beyond 9 = .ok (.iload_n 1, 1) := by decide +kernel
theorem dX4_beyond_10 : decode cX4_beyond 10 = .ok (.iload_n 2, 1) := by decide +kernel
theorem dX4_beyond_11 : decode cX4_beyond 11 = .ok (.invokevirtual 212, 3) := by decide +kernel
theorem dX4_beyond_14 : decode cX4_beyond 14 = .ok (.goto 5, 3) := by decide +kernel
theorem dX4_beyond_17 : decode cX4_beyond 17 = .ok (.bipush (-2), 2) := by decide +kernel
theorem dX4_beyond_19 : decode cX4_beyond 19 = .ok (.ireturn, 1) := by decide +kernel
theorem dX4_explains_0 : decode cX4_explains 0 = .ok (.aload_n 0, 1) := by decide +kernel
theorem dX4_explains_1 : decode cX4_explains 1 = .ok (.iload_n 1, 1) := by decide +kernel
theorem dX4_explains_2 : decode cX4_explains 2 = .ok (.invokevirtual 61, 3) := by decide +kernel
theorem dX4_explains_5 : decode cX4_explains 5 = .ok (.ifCond .eq 11, 3) := by decide +kernel
theorem dX4_explains_8 : decode cX4_explains 8 = .ok (.iload_n 2, 1) := by decide +kernel
theorem dX4_explains_9 : decode cX4_explains 9 = .ok (.iload_n 3, 1) := by decide +kernel
theorem dX4_explains_10 : decode cX4_explains 10 = .ok (.invokestatic 164, 3) := by decide +kernel
theorem dX4_explains_13 : decode cX4_explains 13 = .ok (.ifCond .ne 7, 3) := by decide +kernel
theorem dX4_explains_16 : decode cX4_explains 16 = .ok (.ldc2_w 106, 3) := by decide +kernel
theorem dX4_explains_19 : decode cX4_explains 19 = .ok (.lreturn, 1) := by decide +kernel
theorem dX4_explains_20 : decode cX4_explains 20 = .ok (.aload_n 0, 1) := by decide +kernel
theorem dX4_explains_21 : decode cX4_explains 21 = .ok (.iload_n 2, 1) := by decide +kernel
theorem dX4_explains_22 : decode cX4_explains 22 = .ok (.iload_n 3, 1) := by decide +kernel
theorem dX4_explains_23 : decode cX4_explains 23 = .ok (.invokevirtual 212, 3) := by decide +kernel
theorem dX4_explains_26 : decode cX4_explains 26 = .ok (.istore 4, 2) := by decide +kernel
theorem dX4_explains_28 : decode cX4_explains 28 = .ok (.ldc2_w 215, 3) := by decide +kernel
theorem dX4_explains_31 : decode cX4_explains 31 = .ok (.lstore 5, 2) := by decide +kernel
theorem dX4_explains_33 : decode cX4_explains 33 = .ok (.ldc2_w 217, 3) := by decide +kernel
theorem dX4_explains_36 : decode cX4_explains 36 = .ok (.lstore 7, 2) := by decide +kernel
theorem dX4_explains_38 : decode cX4_explains 38 = .ok (.iconst 0, 1) := by decide +kernel
theorem dX4_explains_39 : decode cX4_explains 39 = .ok (.istore 9, 2) := by decide +kernel
theorem dX4_explains_41 : decode cX4_explains 41 = .ok (.iload 9, 2) := by decide +kernel
theorem dX4_explains_43 : decode cX4_explains 43 = .ok (.iconst 4, 1) := by decide +kernel
theorem dX4_explains_44 : decode cX4_explains 44 = .ok (.if_icmp .ge 93, 3) := by decide +kernel
theorem dX4_explains_47 : decode cX4_explains 47 = .ok (.aload_n 0, 1) := by decide +kernel
theorem dX4_explains_48 : decode cX4_explains 48 = .ok (.getfield 13, 3) := by decide +kernel
theorem dX4_explains_51 : decode cX4_explains 51 = .ok (.iload_n 1, 1) := by decide +kernel
theorem dX4_explains_52 : decode cX4_explains 52 = .ok (.aaload, 1) := by decide +kernel
theorem dX4_explains_53 : decode cX4_explains 53 = .ok (.getfield 200, 3) := by decide +kernel
theorem dX4_explains_56 : decode cX4_explains 56 = .ok (.iload 9, 2) := by decide +kernel
theorem dX4_explains_58 : decode cX4_explains 58 = .ok (.iaload, 1) := by decide +kernel
theorem dX4_explains_59 : decode cX4_explains 59 = .ok (.istore 10, 2) := by decide +kernel
theorem dX4_explains_61 : decode cX4_explains 61 = .ok (.iload 10, 2) := by decide +kernel
theorem dX4_explains_63 : decode cX4_explains 63 = .ok (.ifCond .eq 55, 3) := by decide +kernel
theorem dX4_explains_66 : decode cX4_explains 66 = .ok (.iload 10, 2) := by decide +kernel
theorem dX4_explains_68 : decode cX4_explains 68 = .ok (.ineg, 1) := by decide +kernel
theorem dX4_explains_69 : decode cX4_explains 69 = .ok (.i2l, 1) := by decide +kernel
theorem dX4_explains_70 : decode cX4_explains 70 = .ok (.aload_n 0, 1) := by decide +kernel
theorem dX4_explains_71 : decode cX4_explains 71 = .ok (.iload 9, 2) := by decide +kernel
theorem dX4_explains_73 : decode cX4_explains 73 = .ok (.iload_n 2, 1) := by decide +kernel
theorem dX4_explains_74 : decode cX4_explains 74 = .ok (.iload_n 3, 1) := by decide +kernel
theorem dX4_explains_75 : decode cX4_explains 75 = .ok (.invokevirtual 206, 3) := by decide +kernel
theorem dX4_explains_78 : decode cX4_explains 78 = .ok (.lmul, 1) := by decide +kernel
theorem dX4_explains_79 : decode cX4_explains 79 = .ok (.lstore 11, 2) := by decide +kernel
theorem dX4_explains_81 : decode cX4_explains 81 = .ok (.aload_n 0, 1) := by decide +kernel
theorem dX4_explains_82 : decode cX4_explains 82 = .ok (.iload 9, 2) := by decide +kernel
theorem dX4_explains_84 : decode cX4_explains 84 = .ok (.iload_n 2, 1) := by decide +kernel
theorem dX4_explains_85 : decode cX4_explains 85 = .ok (.iload_n 3, 1) := by decide +kernel
theorem dX4_explains_86 : decode cX4_explains 86 = .ok (.invokevirtual 209, 3) := by decide +kernel
theorem dX4_explains_89 : decode cX4_explains 89 = .ok (.lstore 13, 2) := by decide +kernel
theorem dX4_explains_91 : decode cX4_explains 91 = .ok (.lload 5, 2) := by decide +kernel
theorem dX4_explains_93 : decode cX4_explains 93 = .ok (.lload 11, 2) := by decide +kernel
theorem dX4_explains_95 : decode cX4_explains 95 = .ok (.lload 13, 2) := by decide +kernel
theorem dX4_explains_97 : decode cX4_explains 97 = .ok (.lsub, 1) := by decide +kernel
theorem dX4_explains_98 : decode cX4_explains 98 = .ok (.invokestatic 219, 3) := by decide +kernel
theorem dX4_explains_101 : decode cX4_explains 101 = .ok (.lstore 5, 2) := by decide +kernel
theorem dX4_explains_103 : decode cX4_explains 103 = .ok (.lload 7, 2) := by decide +kernel
theorem dX4_explains_105 : decode cX4_explains 105 = .ok (.lload 11, 2) := by decide +kernel
theorem dX4_explains_107 : decode cX4_explains 107 = .ok (.lload 13, 2) := by decide +kernel
theorem dX4_explains_109 : decode cX4_explains 109 = .ok (.ladd, 1) := by decide +kernel
theorem dX4_explains_110 : decode cX4_explains 110 = .ok (.invokestatic 225, 3) := by decide +kernel
theorem dX4_explains_113 : decode cX4_explains 113 = .ok (.lstore 7, 2) := by decide +kernel
theorem dX4_explains_115 : decode cX4_explains 115 = .ok (.goto 16, 3) := by decide +kernel
theorem dX4_explains_118 : decode cX4_explains 118 = .ok (.iload 4, 2) := by decide +kernel
theorem dX4_explains_120 : decode cX4_explains 120 = .ok (.iload 9, 2) := by decide +kernel
theorem dX4_explains_122 : decode cX4_explains 122 = .ok (.ishr, 1) := by decide +kernel
theorem dX4_explains_123 : decode cX4_explains 123 = .ok (.iconst 1, 1) := by decide +kernel
theorem dX4_explains_124 : decode cX4_explains 124 = .ok (.iand, 1) := by decide +kernel
theorem dX4_explains_125 : decode cX4_explains 125 = .ok (.iconst 1, 1) := by decide +kernel
theorem dX4_explains_126 : decode cX4_explains 126 = .ok (.if_icmp .ne 5, 3) := by decide +kernel
theorem dX4_explains_129 : decode cX4_explains 129 = .ok (.lconst 0, 1) := by decide +kernel
theorem dX4_explains_130 : decode cX4_explains 130 = .ok (.lreturn, 1) := by decide +kernel
theorem dX4_explains_131 : decode cX4_explains 131 = .ok (.iinc 9 1, 3) := by decide +kernel
theorem dX4_explains_134 : decode cX4_explains 134 = .ok (.goto (-93), 3) := by decide +kernel
theorem dX4_explains_137 : decode cX4_explains 137 = .ok (.iload 4, 2) := by decide +kernel
theorem dX4_explains_139 : decode cX4_explains 139 = .ok (.ifCond .eq 11, 3) := by decide +kernel
theorem dX4_explains_142 : decode cX4_explains 142 = .ok (.lload 5, 2) := by decide +kernel
theorem dX4_explains_144 : decode cX4_explains 144 = .ok (.lload 7, 2) := by decide +kernel
theorem dX4_explains_146 : decode cX4_explains 146 = .ok (.lcmp, 1) := by decide +kernel
theorem dX4_explains_147 : decode cX4_explains 147 = .ok (.ifCond .le 5, 3) := by decide +kernel
theorem dX4_explains_150 : decode cX4_explains 150 = .ok (.lconst 0, 1) := by decide +kernel
theorem dX4_explains_151 : decode cX4_explains 151 = .ok (.lreturn, 1) := by decide +kernel
theorem dX4_explains_152 : decode cX4_explains 152 = .ok (.lload 5, 2) := by decide +kernel
theorem dX4_explains_154 : decode cX4_explains 154 = .ok (.lconst 0, 1) := by decide +kernel
theorem dX4_explains_155 : decode cX4_explains 155 = .ok (.lcmp, 1) := by decide +kernel
theorem dX4_explains_156 : decode cX4_explains 156 = .ok (.ifCond .le 8, 3) := by decide +kernel
theorem dX4_explains_159 : decode cX4_explains 159 = .ok (.lload 5, 2) := by decide +kernel
theorem dX4_explains_161 : decode cX4_explains 161 = .ok (.goto 5, 3) := by decide +kernel
theorem dX4_explains_164 : decode cX4_explains 164 = .ok (.lload 7, 2) := by decide +kernel
theorem dX4_explains_166 : decode cX4_explains 166 = .ok (.lreturn, 1) := by decide +kernel
theorem dX4_sheet_0 : decode cX4_sheet 0 = .ok (.aload_n 0, 1) := by decide +kernel
theorem dX4_sheet_1 : decode cX4_sheet 1 = .ok (.iconst 0, 1) := by decide +kernel
theorem dX4_sheet_2 : decode cX4_sheet 2 = .ok (.putfield 49, 3) := by decide +kernel
theorem dX4_sheet_5 : decode cX4_sheet 5 = .ok (.iload_n 1, 1) := by decide +kernel
theorem dX4_sheet_6 : decode cX4_sheet 6 = .ok (.invokestatic 228, 3) := by decide +kernel
theorem dX4_sheet_9 : decode cX4_sheet 9 = .ok (.ifCond .ne 5, 3) := by decide +kernel
theorem dX4_sheet_12 : decode cX4_sheet 12 = .ok (.iconst (-1), 1) := by decide +kernel
theorem dX4_sheet_13 : decode cX4_sheet 13 = .ok (.ireturn, 1) := by decide +kernel
theorem dX4_sheet_14 : decode cX4_sheet 14 = .ok (.iload_n 2, 1) := by decide +kernel
theorem dX4_sheet_15 : decode cX4_sheet 15 = .ok (.invokestatic 231, 3) := by decide +kernel
theorem dX4_sheet_18 : decode cX4_sheet 18 = .ok (.ifCond .eq 9, 3) := by decide +kernel
theorem dX4_sheet_21 : decode cX4_sheet 21 = .ok (.iload_n 3, 1) := by decide +kernel
theorem dX4_sheet_22 : decode cX4_sheet 22 = .ok (.bipush 60, 2) := by decide +kernel
theorem dX4_sheet_24 : decode cX4_sheet 24 = .ok (.if_icmp .le 6, 3) := by decide +kernel
theorem dX4_sheet_27 : decode cX4_sheet 27 = .ok (.bipush (-2), 2) := by decide +kernel
theorem dX4_sheet_29 : decode cX4_sheet 29 = .ok (.ireturn, 1) := by decide +kernel
theorem dX4_sheet_30 : decode cX4_sheet 30 = .ok (.iload_n 3, 1) := by decide +kernel
theorem dX4_sheet_31 : decode cX4_sheet 31 = .ok (.ifCond .ge 9, 3) := by decide +kernel
theorem dX4_sheet_34 : decode cX4_sheet 34 = .ok (.aload_n 0, 1) := by decide +kernel
theorem dX4_sheet_35 : decode cX4_sheet 35 = .ok (.iconst 4, 1) := by decide +kernel
theorem dX4_sheet_36 : decode cX4_sheet 36 = .ok (.invokevirtual 234, 3) := by decide +kernel
theorem dX4_sheet_39 : decode cX4_sheet 39 = .ok (.ireturn, 1) := by decide +kernel
theorem dX4_sheet_40 : decode cX4_sheet 40 = .ok (.aload_n 0, 1) := by decide +kernel
theorem dX4_sheet_41 : decode cX4_sheet 41 = .ok (.getfield 42, 3) := by decide +kernel
theorem dX4_sheet_44 : decode cX4_sheet 44 = .ok (.iload_n 1, 1) := by decide +kernel
theorem dX4_sheet_45 : decode cX4_sheet 45 = .ok (.aaload, 1) := by decide +kernel
theorem dX4_sheet_46 : decode cX4_sheet 46 = .ok (.iload_n 2, 1) := by decide +kernel
theorem dX4_sheet_47 : decode cX4_sheet 47 = .ok (.iload_n 3, 1) := by decide +kernel
theorem dX4_sheet_48 : decode cX4_sheet 48 = .ok (.invokevirtual 237, 3) := by decide +kernel
theorem dX4_sheet_51 : decode cX4_sheet 51 = .ok (.iconst 1, 1) := by decide +kernel
theorem dX4_sheet_52 : decode cX4_sheet 52 = .ok (.ireturn, 1) := by decide +kernel
theorem dX4_lose_0 : decode cX4_lose 0 = .ok (.iload_n 1, 1) := by decide +kernel
theorem dX4_lose_1 : decode cX4_lose 1 = .ok (.invokestatic 228, 3) := by decide +kernel
theorem dX4_lose_4 : decode cX4_lose 4 = .ok (.ifCond .ne 5, 3) := by decide +kernel
theorem dX4_lose_7 : decode cX4_lose 7 = .ok (.iconst (-1), 1) := by decide +kernel
theorem dX4_lose_8 : decode cX4_lose 8 = .ok (.ireturn, 1) := by decide +kernel
theorem dX4_lose_9 : decode cX4_lose 9 = .ok (.aload_n 0, 1) := by decide +kernel
theorem dX4_lose_10 : decode cX4_lose 10 = .ok (.getfield 42, 3) := by decide +kernel
theorem dX4_lose_13 : decode cX4_lose 13 = .ok (.iload_n 1, 1) := by decide +kernel
theorem dX4_lose_14 : decode cX4_lose 14 = .ok (.aaload, 1) := by decide +kernel
theorem dX4_lose_15 : decode cX4_lose 15 = .ok (.getfield 241, 3) := by decide +kernel
theorem dX4_lose_18 : decode cX4_lose 18 = .ok (.ifCond .eq 7, 3) := by decide +kernel
theorem dX4_lose_21 : decode cX4_lose 21 = .ok (.iconst 1, 1) := by decide +kernel
theorem dX4_lose_22 : decode cX4_lose 22 = .ok (.goto 4, 3) := by decide +kernel
theorem dX4_lose_25 : decode cX4_lose 25 = .ok (.iconst 0, 1) := by decide +kernel
theorem dX4_lose_26 : decode cX4_lose 26 = .ok (.istore_n 2, 1) := by decide +kernel
theorem dX4_lose_27 : decode cX4_lose 27 = .ok (.aload_n 0, 1) := by decide +kernel
theorem dX4_lose_28 : decode cX4_lose 28 = .ok (.getfield 42, 3) := by decide +kernel
theorem dX4_lose_31 : decode cX4_lose 31 = .ok (.iload_n 1, 1) := by decide +kernel
theorem dX4_lose_32 : decode cX4_lose 32 = .ok (.aaload, 1) := by decide +kernel
theorem dX4_lose_33 : decode cX4_lose 33 = .ok (.iconst 0, 1) := by decide +kernel
theorem dX4_lose_34 : decode cX4_lose 34 = .ok (.putfield 241, 3) := by decide +kernel
theorem dX4_lose_37 : decode cX4_lose 37 = .ok (.iload_n 2, 1) := by decide +kernel
theorem dX4_lose_38 : decode cX4_lose 38 = .ok (.ireturn, 1) := by decide +kernel
theorem dX4_put_0 : decode cX4_put 0 = .ok (.aload_n 0, 1) := by decide +kernel
theorem dX4_put_1 : decode cX4_put 1 = .ok (.iconst 0, 1) := by decide +kernel
theorem dX4_put_2 : decode cX4_put 2 = .ok (.putfield 49, 3) := by decide +kernel
theorem dX4_put_5 : decode cX4_put 5 = .ok (.iload_n 1, 1) := by decide +kernel
theorem dX4_put_6 : decode cX4_put 6 = .ok (.invokestatic 228, 3) := by decide +kernel
theorem dX4_put_9 : decode cX4_put 9 = .ok (.ifCond .ne 5, 3) := by decide +kernel
theorem dX4_put_12 : decode cX4_put 12 = .ok (.iconst (-1), 1) := by decide +kernel
theorem dX4_put_13 : decode cX4_put 13 = .ok (.ireturn, 1) := by decide +kernel
theorem dX4_put_14 : decode cX4_put 14 = .ok (.aload_n 0, 1) := by decide +kernel
theorem dX4_put_15 : decode cX4_put 15 = .ok (.getfield 42, 3) := by decide +kernel
theorem dX4_put_18 : decode cX4_put 18 = .ok (.iload_n 1, 1) := by decide +kernel
theorem dX4_put_19 : decode cX4_put 19 = .ok (.aaload, 1) := by decide +kernel
theorem dX4_put_20 : decode cX4_put 20 = .ok (.getfield 241, 3) := by decide +kernel
theorem dX4_put_23 : decode cX4_put 23 = .ok (.ifCond .ne 9, 3) := by decide +kernel
theorem dX4_put_26 : decode cX4_put 26 = .ok (.aload_n 0, 1) := by decide +kernel
theorem dX4_put_27 : decode cX4_put 27 = .ok (.iconst 1, 1) := by decide +kernel
theorem dX4_put_28 : decode cX4_put 28 = .ok (.invokevirtual 234, 3) := by decide +kernel
theorem dX4_put_31 : decode cX4_put 31 = .ok (.ireturn, 1) := by decide +kernel
theorem dX4_put_32 : decode cX4_put 32 = .ok (.aload_n 0, 1) := by decide +kernel
theorem dX4_put_33 : decode cX4_put 33 = .ok (.getfield 42, 3) := by decide +kernel
theorem dX4_put_36 : decode cX4_put 36 = .ok (.iload_n 1, 1) := by decide +kernel
theorem dX4_put_37 : decode cX4_put 37 = .ok (.aaload, 1) := by decide +kernel
theorem dX4_put_38 : decode cX4_put 38 = .ok (.iload_n 2, 1) := by decide +kernel
theorem dX4_put_39 : decode cX4_put 39 = .ok (.invokevirtual 244, 3) := by decide +kernel
theorem dX4_put_42 : decode cX4_put 42 = .ok (.ifCond .ne 9, 3) := by decide +kernel
theorem dX4_put_45 : decode cX4_put 45 = .ok (.aload_n 0, 1) := by decide +kernel
theorem dX4_put_46 : decode cX4_put 46 = .ok (.iconst 3, 1) := by decide +kernel
theorem dX4_put_47 : decode cX4_put 47 = .ok (.invokevirtual 234, 3) := by decide +kernel
theorem dX4_put_50 : decode cX4_put 50 = .ok (.ireturn, 1) := by decide +kernel
theorem dX4_put_51 : decode cX4_put 51 = .ok (.aload_n 0, 1) := by decide +kernel
theorem dX4_put_52 : decode cX4_put 52 = .ok (.getfield 42, 3) := by decide +kernel
theorem dX4_put_55 : decode cX4_put 55 = .ok (.iload_n 1, 1) := by decide +kernel
theorem dX4_put_56 : decode cX4_put 56 = .ok (.aaload, 1) := by decide +kernel
theorem dX4_put_57 : decode cX4_put 57 = .ok (.iload_n 2, 1) := by decide +kernel
theorem dX4_put_58 : decode cX4_put 58 = .ok (.iload_n 3, 1) := by decide +kernel
theorem dX4_put_59 : decode cX4_put 59 = .ok (.invokevirtual 247, 3) := by decide +kernel
theorem dX4_put_62 : decode cX4_put 62 = .ok (.iconst 1, 1) := by decide +kernel
theorem dX4_put_63 : decode cX4_put 63 = .ok (.ireturn, 1) := by decide +kernel
theorem dX4_cell_0 : decode cX4_cell 0 = .ok (.aload_n 0, 1) := by decide +kernel
theorem dX4_cell_1 : decode cX4_cell 1 = .ok (.iconst 0, 1) := by decide +kernel
theorem dX4_cell_2 : decode cX4_cell 2 = .ok (.putfield 49, 3) := by decide +kernel
theorem dX4_cell_5 : decode cX4_cell 5 = .ok (.iload_n 1, 1) := by decide +kernel
theorem dX4_cell_6 : decode cX4_cell 6 = .ok (.invokestatic 228, 3) := by decide +kernel
theorem dX4_cell_9 : decode cX4_cell 9 = .ok (.ifCond .eq 10, 3) := by decide +kernel
theorem dX4_cell_12 : decode cX4_cell 12 = .ok (.iload_n 3, 1) := by decide +kernel
theorem dX4_cell_13 : decode cX4_cell 13 = .ok (.invokestatic 231, 3) := by decide +kernel
theorem dX4_cell_16 : decode cX4_cell 16 = .ok (.ifCond .ne 7, 3) := by decide +kernel
theorem dX4_cell_19 : decode cX4_cell 19 = .ok (.ldc2_w 106, 3) := by decide +kernel
theorem dX4_cell_22 : decode cX4_cell 22 = .ok (.lreturn, 1) := by decide +kernel
theorem dX4_cell_23 : decode cX4_cell 23 = .ok (.aload_n 0, 1) := by decide +kernel
theorem dX4_cell_24 : decode cX4_cell 24 = .ok (.aload_n 0, 1) := by decide +kernel
theorem dX4_cell_25 : decode cX4_cell 25 = .ok (.getfield 42, 3) := by decide +kernel
theorem dX4_cell_28 : decode cX4_cell 28 = .ok (.iload_n 1, 1) := by decide +kernel
theorem dX4_cell_29 : decode cX4_cell 29 = .ok (.aaload, 1) := by decide +kernel
theorem dX4_cell_30 : decode cX4_cell 30 = .ok (.iload_n 3, 1) := by decide +kernel
theorem dX4_cell_31 : decode cX4_cell 31 = .ok (.invokevirtual 250, 3) := by decide +kernel
theorem dX4_cell_34 : decode cX4_cell 34 = .ok (.putfield 49, 3) := by decide +kernel
theorem dX4_cell_37 : decode cX4_cell 37 = .ok (.aload_n 0, 1) := by decide +kernel
theorem dX4_cell_38 : decode cX4_cell 38 = .ok (.getfield 49, 3) := by decide +kernel
theorem dX4_cell_41 : decode cX4_cell 41 = .ok (.ifCond .ne 21, 3) := by decide +kernel
theorem dX4_cell_44 : decode cX4_cell 44 = .ok (.aload_n 0, 1) := by decide +kernel
theorem dX4_cell_45 : decode cX4_cell 45 = .ok (.getfield 42, 3) := by decide +kernel
theorem dX4_cell_48 : decode cX4_cell 48 = .ok (.iload_n 1, 1) := by decide +kernel
theorem dX4_cell_49 : decode cX4_cell 49 = .ok (.aaload, 1) := by decide +kernel
theorem dX4_cell_50 : decode cX4_cell 50 = .ok (.iload_n 2, 1) := by decide +kernel
theorem dX4_cell_51 : decode cX4_cell 51 = .ok (.invokevirtual 244, 3) := by decide +kernel
theorem dX4_cell_54 : decode cX4_cell 54 = .ok (.ifCond .ne 8, 3) := by decide +kernel
theorem dX4_cell_57 : decode cX4_cell 57 = .ok (.aload_n 0, 1) := by decide +kernel
theorem dX4_cell_58 : decode cX4_cell 58 = .ok (.iconst 3, 1) := by decide +kernel
theorem dX4_cell_59 : decode cX4_cell 59 = .ok (.putfield 49, 3) := by decide +kernel
theorem dX4_cell_62 : decode cX4_cell 62 = .ok (.aload_n 0, 1) := by decide +kernel
theorem dX4_cell_63 : decode cX4_cell 63 = .ok (.getfield 49, 3) := by decide +kernel
theorem dX4_cell_66 : decode cX4_cell 66 = .ok (.ifCond .ne 18, 3) := by decide +kernel
theorem dX4_cell_69 : decode cX4_cell 69 = .ok (.aload_n 0, 1) := by decide +kernel
theorem dX4_cell_70 : decode cX4_cell 70 = .ok (.getfield 42, 3) := by decide +kernel
theorem dX4_cell_73 : decode cX4_cell 73 = .ok (.iload_n 1, 1) := by decide +kernel
theorem dX4_cell_74 : decode cX4_cell 74 = .ok (.aaload, 1) := by decide +kernel
theorem dX4_cell_75 : decode cX4_cell 75 = .ok (.getfield 253, 3) := by decide +kernel
theorem dX4_cell_78 : decode cX4_cell 78 = .ok (.iload_n 2, 1) := by decide +kernel
theorem dX4_cell_79 : decode cX4_cell 79 = .ok (.iaload, 1) := by decide +kernel
theorem dX4_cell_80 : decode cX4_cell 80 = .ok (.i2l, 1) := by decide +kernel
theorem dX4_cell_81 : decode cX4_cell 81 = .ok (.goto 6, 3) := by decide +kernel
theorem dX4_cell_84 : decode cX4_cell 84 = .ok (.ldc2_w 106, 3) := by decide +kernel
theorem dX4_cell_87 : decode cX4_cell 87 = .ok (.lreturn, 1) := by decide +kernel
theorem dX4_copy_0 : decode cX4_copy 0 = .ok (.aload_n 0, 1) := by decide +kernel
theorem dX4_copy_1 : decode cX4_copy 1 = .ok (.iconst 0, 1) := by decide +kernel
theorem dX4_copy_2 : decode cX4_copy 2 = .ok (.putfield 49, 3) := by decide +kernel
theorem dX4_copy_5 : decode cX4_copy 5 = .ok (.iload_n 1, 1) := by decide +kernel
theorem dX4_copy_6 : decode cX4_copy 6 = .ok (.invokestatic 228, 3) := by decide +kernel
theorem dX4_copy_9 : decode cX4_copy 9 = .ok (.ifCond .eq 10, 3) := by decide +kernel
theorem dX4_copy_12 : decode cX4_copy 12 = .ok (.iload_n 3, 1) := by decide +kernel
theorem dX4_copy_13 : decode cX4_copy 13 = .ok (.invokestatic 228, 3) := by decide +kernel
theorem dX4_copy_16 : decode cX4_copy 16 = .ok (.ifCond .ne 5, 3) := by decide +kernel
theorem dX4_copy_19 : decode cX4_copy 19 = .ok (.iconst (-1), 1) := by decide +kernel
theorem dX4_copy_20 : decode cX4_copy 20 = .ok (.ireturn, 1) := by decide +kernel
theorem dX4_copy_21 : decode cX4_copy 21 = .ok (.aload_n 0, 1) := by decide +kernel
theorem dX4_copy_22 : decode cX4_copy 22 = .ok (.getfield 42, 3) := by decide +kernel
theorem dX4_copy_25 : decode cX4_copy 25 = .ok (.iload_n 1, 1) := by decide +kernel
theorem dX4_copy_26 : decode cX4_copy 26 = .ok (.aaload, 1) := by decide +kernel
theorem dX4_copy_27 : decode cX4_copy 27 = .ok (.astore 6, 2) := by decide +kernel
theorem dX4_copy_29 : decode cX4_copy 29 = .ok (.aload_n 0, 1) := by decide +kernel
theorem dX4_copy_30 : decode cX4_copy 30 = .ok (.getfield 42, 3) := by decide +kernel
theorem dX4_copy_33 : decode cX4_copy 33 = .ok (.iload_n 3, 1) := by decide +kernel
theorem dX4_copy_34 : decode cX4_copy 34 = .ok (.aaload, 1) := by decide +kernel
theorem dX4_copy_35 : decode cX4_copy 35 = .ok (.astore 7, 2) := by decide +kernel
theorem dX4_copy_37 : decode cX4_copy 37 = .ok (.aload 6, 2) := by decide +kernel
theorem dX4_copy_39 : decode cX4_copy 39 = .ok (.getfield 241, 3) := by decide +kernel
theorem dX4_copy_42 : decode cX4_copy 42 = .ok (.ifCond .eq 11, 3) := by decide +kernel
theorem dX4_copy_45 : decode cX4_copy 45 = .ok (.aload 7, 2) := by decide +kernel
theorem dX4_copy_47 : decode cX4_copy 47 = .ok (.getfield 241, 3) := by decide +kernel
theorem dX4_copy_50 : decode cX4_copy 50 = .ok (.ifCond .ne 9, 3) := by decide +kernel
theorem dX4_copy_53 : decode cX4_copy 53 = .ok (.aload_n 0, 1) := by decide +kernel
theorem dX4_copy_54 : decode cX4_copy 54 = .ok (.iconst 1, 1) := by decide +kernel
theorem dX4_copy_55 : decode cX4_copy 55 = .ok (.invokevirtual 234, 3) := by decide +kernel
theorem dX4_copy_58 : decode cX4_copy 58 = .ok (.ireturn, 1) := by decide +kernel
theorem dX4_copy_59 : decode cX4_copy 59 = .ok (.aload 6, 2) := by decide +kernel
theorem dX4_copy_61 : decode cX4_copy 61 = .ok (.getfield 256, 3) := by decide +kernel
theorem dX4_copy_64 : decode cX4_copy 64 = .ok (.aload 7, 2) := by decide +kernel
theorem dX4_copy_66 : decode cX4_copy 66 = .ok (.getfield 256, 3) := by decide +kernel
theorem dX4_copy_69 : decode cX4_copy 69 = .ok (.if_icmp .eq 9, 3) := by decide +kernel
theorem dX4_copy_72 : decode cX4_copy 72 = .ok (.aload_n 0, 1) := by decide +kernel
theorem dX4_copy_73 : decode cX4_copy 73 = .ok (.iconst 2, 1) := by decide +kernel
theorem dX4_copy_74 : decode cX4_copy 74 = .ok (.invokevirtual 234, 3) := by decide +kernel
theorem dX4_copy_77 : decode cX4_copy 77 = .ok (.ireturn, 1) := by decide +kernel
theorem dX4_copy_78 : decode cX4_copy 78 = .ok (.aload 6, 2) := by decide +kernel
theorem dX4_copy_80 : decode cX4_copy 80 = .ok (.iload_n 2, 1) := by decide +kernel
theorem dX4_copy_81 : decode cX4_copy 81 = .ok (.iload 5, 2) := by decide +kernel
theorem dX4_copy_83 : decode cX4_copy 83 = .ok (.invokevirtual 259, 3) := by decide +kernel
theorem dX4_copy_86 : decode cX4_copy 86 = .ok (.ifCond .eq 15, 3) := by decide +kernel
theorem dX4_copy_89 : decode cX4_copy 89 = .ok (.aload 7, 2) := by decide +kernel
theorem dX4_copy_91 : decode cX4_copy 91 = .ok (.iload 4, 2) := by decide +kernel
theorem dX4_copy_93 : decode cX4_copy 93 = .ok (.iload 5, 2) := by decide +kernel
theorem dX4_copy_95 : decode cX4_copy 95 = .ok (.invokevirtual 259, 3) := by decide +kernel
theorem dX4_copy_98 : decode cX4_copy 98 = .ok (.ifCond .ne 9, 3) := by decide +kernel
theorem dX4_copy_101 : decode cX4_copy 101 = .ok (.aload_n 0, 1) := by decide +kernel
theorem dX4_copy_102 : decode cX4_copy 102 = .ok (.iconst 3, 1) := by decide +kernel
theorem dX4_copy_103 : decode cX4_copy 103 = .ok (.invokevirtual 234, 3) := by decide +kernel
theorem dX4_copy_106 : decode cX4_copy 106 = .ok (.ireturn, 1) := by decide +kernel
theorem dX4_copy_107 : decode cX4_copy 107 = .ok (.aload 6, 2) := by decide +kernel
theorem dX4_copy_109 : decode cX4_copy 109 = .ok (.getfield 253, 3) := by decide +kernel
theorem dX4_copy_112 : decode cX4_copy 112 = .ok (.iload_n 2, 1) := by decide +kernel
theorem dX4_copy_113 : decode cX4_copy 113 = .ok (.aload 7, 2) := by decide +kernel
theorem dX4_copy_115 : decode cX4_copy 115 = .ok (.getfield 253, 3) := by decide +kernel
theorem dX4_copy_118 : decode cX4_copy 118 = .ok (.iload 4, 2) := by decide +kernel
theorem dX4_copy_120 : decode cX4_copy 120 = .ok (.iload 5, 2) := by decide +kernel
theorem dX4_copy_122 : decode cX4_copy 122 = .ok (.invokestatic 262, 3) := by decide +kernel
theorem dX4_copy_125 : decode cX4_copy 125 = .ok (.iload 5, 2) := by decide +kernel
theorem dX4_copy_127 : decode cX4_copy 127 = .ok (.ireturn, 1) := by decide +kernel
theorem dX4_watch_0 : decode cX4_watch 0 = .ok (.aload_n 0, 1) := by decide +kernel
theorem dX4_watch_1 : decode cX4_watch 1 = .ok (.iconst 0, 1) := by decide +kernel
theorem dX4_watch_2 : decode cX4_watch 2 = .ok (.putfield 49, 3) := by decide +kernel
theorem dX4_watch_5 : decode cX4_watch 5 = .ok (.iload_n 1, 1) := by decide +kernel
theorem dX4_watch_6 : decode cX4_watch 6 = .ok (.invokestatic 228, 3) := by decide +kernel
theorem dX4_watch_9 : decode cX4_watch 9 = .ok (.ifCond .ne 5, 3) := by decide +kernel
theorem dX4_watch_12 : decode cX4_watch 12 = .ok (.iconst (-1), 1) := by decide +kernel
theorem dX4_watch_13 : decode cX4_watch 13 = .ok (.ireturn, 1) := by decide +kernel
theorem dX4_watch_14 : decode cX4_watch 14 = .ok (.iload_n 2, 1) := by decide +kernel
theorem dX4_watch_15 : decode cX4_watch 15 = .ok (.invokestatic 231, 3) := by decide +kernel
theorem dX4_watch_18 : decode cX4_watch 18 = .ok (.ifCond .eq 13, 3) := by decide +kernel
theorem dX4_watch_21 : decode cX4_watch 21 = .ok (.iload 5, 2) := by decide +kernel
theorem dX4_watch_23 : decode cX4_watch 23 = .ok (.iconst 0, 1) := by decide +kernel
theorem dX4_watch_24 : decode cX4_watch 24 = .ok (.iconst 3, 1) := by decide +kernel
theorem dX4_watch_25 : decode cX4_watch 25 = .ok (.invokestatic 54, 3) := by decide +kernel
theorem dX4_watch_28 : decode cX4_watch 28 = .ok (.ifCond .ne 6, 3) := by decide +kernel
theorem dX4_watch_31 : decode cX4_watch 31 = .ok (.bipush (-2), 2) := by decide +kernel
theorem dX4_watch_33 : decode cX4_watch 33 = .ok (.ireturn, 1) := by decide +kernel
theorem dX4_watch_34 : decode cX4_watch 34 = .ok (.aload_n 0, 1) := by decide +kernel
theorem dX4_watch_35 : decode cX4_watch 35 = .ok (.getfield 42, 3) := by decide +kernel
theorem dX4_watch_38 : decode cX4_watch 38 = .ok (.iload_n 1, 1) := by decide +kernel
theorem dX4_watch_39 : decode cX4_watch 39 = .ok (.aaload, 1) := by decide +kernel
theorem dX4_watch_40 : decode cX4_watch 40 = .ok (.iload_n 2, 1) := by decide +kernel
theorem dX4_watch_41 : decode cX4_watch 41 = .ok (.invokevirtual 250, 3) := by decide +kernel
theorem dX4_watch_44 : decode cX4_watch 44 = .ok (.istore 6, 2) := by decide +kernel
theorem dX4_watch_46 : decode cX4_watch 46 = .ok (.iload 6, 2) := by decide +kernel
theorem dX4_watch_48 : decode cX4_watch 48 = .ok (.ifCond .eq 10, 3) := by decide +kernel
theorem dX4_watch_51 : decode cX4_watch 51 = .ok (.aload_n 0, 1) := by decide +kernel
theorem dX4_watch_52 : decode cX4_watch 52 = .ok (.iload 6, 2) := by decide +kernel
theorem dX4_watch_54 : decode cX4_watch 54 = .ok (.invokevirtual 234, 3) := by decide +kernel
theorem dX4_watch_57 : decode cX4_watch 57 = .ok (.ireturn, 1) := by decide +kernel
theorem dX4_watch_58 : decode cX4_watch 58 = .ok (.iload 4, 2) := by decide +kernel
theorem dX4_watch_60 : decode cX4_watch 60 = .ok (.ifCond .ge 9, 3) := by decide +kernel
theorem dX4_watch_63 : decode cX4_watch 63 = .ok (.aload_n 0, 1) := by decide +kernel
theorem dX4_watch_64 : decode cX4_watch 64 = .ok (.iconst 4, 1) := by decide +kernel
theorem dX4_watch_65 : decode cX4_watch 65 = .ok (.invokevirtual 234, 3) := by decide +kernel
theorem dX4_watch_68 : decode cX4_watch 68 = .ok (.ireturn, 1) := by decide +kernel
theorem dX4_watch_69 : decode cX4_watch 69 = .ok (.aload_n 0, 1) := by decide +kernel
theorem dX4_watch_70 : decode cX4_watch 70 = .ok (.getfield 42, 3) := by decide +kernel
theorem dX4_watch_73 : decode cX4_watch 73 = .ok (.iload_n 1, 1) := by decide +kernel
theorem dX4_watch_74 : decode cX4_watch 74 = .ok (.aaload, 1) := by decide +kernel
theorem dX4_watch_75 : decode cX4_watch 75 = .ok (.iload_n 3, 1) := by decide +kernel
theorem dX4_watch_76 : decode cX4_watch 76 = .ok (.iload 4, 2) := by decide +kernel
theorem dX4_watch_78 : decode cX4_watch 78 = .ok (.invokevirtual 259, 3) := by decide +kernel
theorem dX4_watch_81 : decode cX4_watch 81 = .ok (.ifCond .ne 9, 3) := by decide +kernel
theorem dX4_watch_84 : decode cX4_watch 84 = .ok (.aload_n 0, 1) := by decide +kernel
theorem dX4_watch_85 : decode cX4_watch 85 = .ok (.iconst 3, 1) := by decide +kernel
theorem dX4_watch_86 : decode cX4_watch 86 = .ok (.invokevirtual 234, 3) := by decide +kernel
theorem dX4_watch_89 : decode cX4_watch 89 = .ok (.ireturn, 1) := by decide +kernel
theorem dX4_watch_90 : decode cX4_watch 90 = .ok (.aload_n 0, 1) := by decide +kernel
theorem dX4_watch_91 : decode cX4_watch 91 = .ok (.getfield 42, 3) := by decide +kernel
theorem dX4_watch_94 : decode cX4_watch 94 = .ok (.iload_n 1, 1) := by decide +kernel
theorem dX4_watch_95 : decode cX4_watch 95 = .ok (.aaload, 1) := by decide +kernel
theorem dX4_watch_96 : decode cX4_watch 96 = .ok (.iload_n 3, 1) := by decide +kernel
theorem dX4_watch_97 : decode cX4_watch 97 = .ok (.iload 4, 2) := by decide +kernel
theorem dX4_watch_99 : decode cX4_watch 99 = .ok (.iload 5, 2) := by decide +kernel
theorem dX4_watch_101 : decode cX4_watch 101 = .ok (.invokevirtual 268, 3) := by decide +kernel
theorem dX4_watch_104 : decode cX4_watch 104 = .ok (.ireturn, 1) := by decide +kernel
theorem dX4_tell_0 : decode cX4_tell 0 = .ok (.aload_n 0, 1) := by decide +kernel
theorem dX4_tell_1 : decode cX4_tell 1 = .ok (.iload_n 1, 1) := by decide +kernel
theorem dX4_tell_2 : decode cX4_tell 2 = .ok (.invokevirtual 152, 3) := by decide +kernel
theorem dX4_tell_5 : decode cX4_tell 5 = .ok (.ifCond .ne 5, 3) := by decide +kernel
theorem dX4_tell_8 : decode cX4_tell 8 = .ok (.iconst (-1), 1) := by decide +kernel
theorem dX4_tell_9 : decode cX4_tell 9 = .ok (.ireturn, 1) := by decide +kernel
theorem dX4_tell_10 : decode cX4_tell 10 = .ok (.aload_n 0, 1) := by decide +kernel
theorem dX4_tell_11 : decode cX4_tell 11 = .ok (.getfield 30, 3) := by decide +kernel
theorem dX4_tell_14 : decode cX4_tell 14 = .ok (.iload_n 1, 1) := by decide +kernel
theorem dX4_tell_15 : decode cX4_tell 15 = .ok (.aaload, 1) := by decide +kernel
theorem dX4_tell_16 : decode cX4_tell 16 = .ok (.getfield 175, 3) := by decide +kernel
theorem dX4_tell_19 : decode cX4_tell 19 = .ok (.lookupswitch 64 #[(1, 25), (2, 45)], 25) := by decide +kernel
theorem dX4_tell_44 : decode cX4_tell 44 = .ok (.aload_n 0, 1) := by decide +kernel
theorem dX4_tell_45 : decode cX4_tell 45 = .ok (.iconst 2, 1) := by decide +kernel
theorem dX4_tell_46 : decode cX4_tell 46 = .ok (.invokevirtual 272, 3) := by decide +kernel
theorem dX4_tell_49 : decode cX4_tell 49 = .ok (.sipush 1000, 3) := by decide +kernel
theorem dX4_tell_52 : decode cX4_tell 52 = .ok (.aload_n 0, 1) := by decide +kernel
theorem dX4_tell_53 : decode cX4_tell 53 = .ok (.aload_n 0, 1) := by decide +kernel
theorem dX4_tell_54 : decode cX4_tell 54 = .ok (.getfield 30, 3) := by decide +kernel
theorem dX4_tell_57 : decode cX4_tell 57 = .ok (.iload_n 1, 1) := by decide +kernel
theorem dX4_tell_58 : decode cX4_tell 58 = .ok (.aaload, 1) := by decide +kernel
theorem dX4_tell_59 : decode cX4_tell 59 = .ok (.invokevirtual 275, 3) := by decide +kernel
theorem dX4_tell_62 : decode cX4_tell 62 = .ok (.iadd, 1) := by decide +kernel
theorem dX4_tell_63 : decode cX4_tell 63 = .ok (.ireturn, 1) := by decide +kernel
theorem dX4_tell_64 : decode cX4_tell 64 = .ok (.aload_n 0, 1) := by decide +kernel
theorem dX4_tell_65 : decode cX4_tell 65 = .ok (.iconst 3, 1) := by decide +kernel
theorem dX4_tell_66 : decode cX4_tell 66 = .ok (.invokevirtual 272, 3) := by decide +kernel
theorem dX4_tell_69 : decode cX4_tell 69 = .ok (.aload_n 0, 1) := by decide +kernel
theorem dX4_tell_70 : decode cX4_tell 70 = .ok (.aload_n 0, 1) := by decide +kernel
theorem dX4_tell_71 : decode cX4_tell 71 = .ok (.getfield 30, 3) := by decide +kernel
theorem dX4_tell_74 : decode cX4_tell 74 = .ok (.iload_n 1, 1) := by decide +kernel
theorem dX4_tell_75 : decode cX4_tell 75 = .ok (.aaload, 1) := by decide +kernel
theorem dX4_tell_76 : decode cX4_tell 76 = .ok (.invokevirtual 275, 3) := by decide +kernel
theorem dX4_tell_79 : decode cX4_tell 79 = .ok (.ineg, 1) := by decide +kernel
theorem dX4_tell_80 : decode cX4_tell 80 = .ok (.iconst 1, 1) := by decide +kernel
theorem dX4_tell_81 : decode cX4_tell 81 = .ok (.isub, 1) := by decide +kernel
theorem dX4_tell_82 : decode cX4_tell 82 = .ok (.ireturn, 1) := by decide +kernel
theorem dX4_tell_83 : decode cX4_tell 83 = .ok (.aload_n 0, 1) := by decide +kernel
theorem dX4_tell_84 : decode cX4_tell 84 = .ok (.aload_n 0, 1) := by decide +kernel
theorem dX4_tell_85 : decode cX4_tell 85 = .ok (.getfield 30, 3) := by decide +kernel
theorem dX4_tell_88 : decode cX4_tell 88 = .ok (.iload_n 1, 1) := by decide +kernel
theorem dX4_tell_89 : decode cX4_tell 89 = .ok (.aaload, 1) := by decide +kernel
theorem dX4_tell_90 : decode cX4_tell 90 = .ok (.invokevirtual 275, 3) := by decide +kernel
theorem dX4_tell_93 : decode cX4_tell 93 = .ok (.ireturn, 1) := by decide +kernel
theorem dX4_worth_0 : decode cX4_worth 0 = .ok (.aload_n 0, 1) := by decide +kernel
theorem dX4_worth_1 : decode cX4_worth 1 = .ok (.iload_n 1, 1) := by decide +kernel
theorem dX4_worth_2 : decode cX4_worth 2 = .ok (.invokevirtual 152, 3) := by decide +kernel
theorem dX4_worth_5 : decode cX4_worth 5 = .ok (.ifCond .ne 5, 3) := by decide +kernel
theorem dX4_worth_8 : decode cX4_worth 8 = .ok (.iconst (-1), 1) := by decide +kernel
theorem dX4_worth_9 : decode cX4_worth 9 = .ok (.ireturn, 1) := by decide +kernel
theorem dX4_worth_10 : decode cX4_worth 10 = .ok (.aload_n 0, 1) := by decide +kernel
theorem dX4_worth_11 : decode cX4_worth 11 = .ok (.getfield 30, 3) := by decide +kernel
theorem dX4_worth_14 : decode cX4_worth 14 = .ok (.iload_n 1, 1) := by decide +kernel
theorem dX4_worth_15 : decode cX4_worth 15 = .ok (.aaload, 1) := by decide +kernel
theorem dX4_worth_16 : decode cX4_worth 16 = .ok (.getfield 175, 3) := by decide +kernel
theorem dX4_worth_19 : decode cX4_worth 19 = .ok (.iconst 2, 1) := by decide +kernel
theorem dX4_worth_20 : decode cX4_worth 20 = .ok (.if_icmp .ne 10, 3) := by decide +kernel
theorem dX4_worth_23 : decode cX4_worth 23 = .ok (.aload_n 0, 1) := by decide +kernel
theorem dX4_worth_24 : decode cX4_worth 24 = .ok (.iconst 5, 1) := by decide +kernel
theorem dX4_worth_25 : decode cX4_worth 25 = .ok (.invokevirtual 272, 3) := by decide +kernel
theorem dX4_worth_28 : decode cX4_worth 28 = .ok (.iconst 1, 1) := by decide +kernel
theorem dX4_worth_29 : decode cX4_worth 29 = .ok (.ireturn, 1) := by decide +kernel
theorem dX4_worth_30 : decode cX4_worth 30 = .ok (.aload_n 0, 1) := by decide +kernel
theorem dX4_worth_31 : decode cX4_worth 31 = .ok (.iconst 4, 1) := by decide +kernel
theorem dX4_worth_32 : decode cX4_worth 32 = .ok (.invokevirtual 272, 3) := by decide +kernel
theorem dX4_worth_35 : decode cX4_worth 35 = .ok (.aload_n 0, 1) := by decide +kernel
theorem dX4_worth_36 : decode cX4_worth 36 = .ok (.aload_n 0, 1) := by decide +kernel
theorem dX4_worth_37 : decode cX4_worth 37 = .ok (.getfield 30, 3) := by decide +kernel
theorem dX4_worth_40 : decode cX4_worth 40 = .ok (.iload_n 1, 1) := by decide +kernel
theorem dX4_worth_41 : decode cX4_worth 41 = .ok (.aaload, 1) := by decide +kernel
theorem dX4_worth_42 : decode cX4_worth 42 = .ok (.invokevirtual 189, 3) := by decide +kernel
theorem dX4_worth_45 : decode cX4_worth 45 = .ok (.ldc2_w 115, 3) := by decide +kernel
theorem dX4_worth_48 : decode cX4_worth 48 = .ok (.ldiv, 1) := by decide +kernel
theorem dX4_worth_49 : decode cX4_worth 49 = .ok (.ldc2_w 279, 3) := by decide +kernel
theorem dX4_worth_52 : decode cX4_worth 52 = .ok (.invokestatic 225, 3) := by decide +kernel
theorem dX4_worth_55 : decode cX4_worth 55 = .ok (.l2i, 1) := by decide +kernel
theorem dX4_worth_56 : decode cX4_worth 56 = .ok (.ireturn, 1) := by decide +kernel
theorem dX4_as_0 : decode cX4_as 0 = .ok (.aload_n 0, 1) := by decide +kernel
theorem dX4_as_1 : decode cX4_as 1 = .ok (.iconst 0, 1) := by decide +kernel
theorem dX4_as_2 : decode cX4_as 2 = .ok (.putfield 49, 3) := by decide +kernel
theorem dX4_as_5 : decode cX4_as 5 = .ok (.aload_n 0, 1) := by decide +kernel
theorem dX4_as_6 : decode cX4_as 6 = .ok (.iload_n 1, 1) := by decide +kernel
theorem dX4_as_7 : decode cX4_as 7 = .ok (.invokevirtual 152, 3) := by decide +kernel
theorem dX4_as_10 : decode cX4_as 10 = .ok (.ifCond .ne 5, 3) := by decide +kernel
theorem dX4_as_13 : decode cX4_as 13 = .ok (.iconst (-1), 1) := by decide +kernel
theorem dX4_as_14 : decode cX4_as 14 = .ok (.ireturn, 1) := by decide +kernel
theorem dX4_as_15 : decode cX4_as 15 = .ok (.iload_n 2, 1) := by decide +kernel
theorem dX4_as_16 : decode cX4_as 16 = .ok (.iconst 0, 1) := by decide +kernel
theorem dX4_as_17 : decode cX4_as 17 = .ok (.iconst 2, 1) := by decide +kernel
theorem dX4_as_18 : decode cX4_as 18 = .ok (.invokestatic 54, 3) := by decide +kernel
theorem dX4_as_21 : decode cX4_as 21 = .ok (.ifCond .ne 6, 3) := by decide +kernel
theorem dX4_as_24 : decode cX4_as 24 = .ok (.bipush (-2), 2) := by decide +kernel
theorem dX4_as_26 : decode cX4_as 26 = .ok (.ireturn, 1) := by decide +kernel
theorem dX4_as_27 : decode cX4_as 27 = .ok (.aload_n 0, 1) := by decide +kernel
theorem dX4_as_28 : decode cX4_as 28 = .ok (.getfield 30, 3) := by decide +kernel
theorem dX4_as_31 : decode cX4_as 31 = .ok (.iload_n 1, 1) := by decide +kernel
theorem dX4_as_32 : decode cX4_as 32 = .ok (.aaload, 1) := by decide +kernel
theorem dX4_as_33 : decode cX4_as 33 = .ok (.getfield 175, 3) := by decide +kernel
theorem dX4_as_36 : decode cX4_as 36 = .ok (.iload_n 2, 1) := by decide +kernel
theorem dX4_as_37 : decode cX4_as 37 = .ok (.if_icmp .lt 7, 3) := by decide +kernel
theorem dX4_as_40 : decode cX4_as 40 = .ok (.iconst 1, 1) := by decide +kernel
theorem dX4_as_41 : decode cX4_as 41 = .ok (.goto 8, 3) := by decide +kernel
theorem dX4_as_44 : decode cX4_as 44 = .ok (.aload_n 0, 1) := by decide +kernel
theorem dX4_as_45 : decode cX4_as 45 = .ok (.iconst 2, 1) := by decide +kernel
theorem dX4_as_46 : decode cX4_as 46 = .ok (.invokevirtual 234, 3) := by decide +kernel
theorem dX4_as_49 : decode cX4_as 49 = .ok (.ireturn, 1) := by decide +kernel
theorem dX4_trace_0 : decode cX4_trace 0 = .ok (.aload_n 0, 1) := by decide +kernel
theorem dX4_trace_1 : decode cX4_trace 1 = .ok (.getfield 46, 3) := by decide +kernel
theorem dX4_trace_4 : decode cX4_trace 4 = .ok (.ireturn, 1) := by decide +kernel
theorem dX4_fault_0 : decode cX4_fault 0 = .ok (.aload_n 0, 1) := by decide +kernel
theorem dX4_fault_1 : decode cX4_fault 1 = .ok (.getfield 49, 3) := by decide +kernel
theorem dX4_fault_4 : decode cX4_fault 4 = .ok (.ireturn, 1) := by decide +kernel
theorem dX4_told_0 : decode cX4_told 0 = .ok (.iload_n 1, 1) := by decide +kernel
theorem dX4_told_1 : decode cX4_told 1 = .ok (.tableswitch 51 0 3 #[31, 36, 41, 46], 31) := by decide +kernel
theorem dX4_told_32 : decode cX4_told 32 = .ok (.aload_n 0, 1) := by decide +kernel
theorem dX4_told_33 : decode cX4_told 33 = .ok (.getfield 17, 3) := by decide +kernel
theorem dX4_told_36 : decode cX4_told 36 = .ok (.ireturn, 1) := by decide +kernel
theorem dX4_told_37 : decode cX4_told 37 = .ok (.aload_n 0, 1) := by decide +kernel
theorem dX4_told_38 : decode cX4_told 38 = .ok (.getfield 34, 3) := by decide +kernel
theorem dX4_told_41 : decode cX4_told 41 = .ok (.ireturn, 1) := by decide +kernel
theorem dX4_told_42 : decode cX4_told 42 = .ok (.aload_n 0, 1) := by decide +kernel
theorem dX4_told_43 : decode cX4_told 43 = .ok (.invokevirtual 281, 3) := by decide +kernel
theorem dX4_told_46 : decode cX4_told 46 = .ok (.ireturn, 1) := by decide +kernel
theorem dX4_told_47 : decode cX4_told 47 = .ok (.aload_n 0, 1) := by decide +kernel
theorem dX4_told_48 : decode cX4_told 48 = .ok (.getfield 37, 3) := by decide +kernel
theorem dX4_told_51 : decode cX4_told 51 = .ok (.ireturn, 1) := by decide +kernel
theorem dX4_told_52 : decode cX4_told 52 = .ok (.aload_n 0, 1) := by decide +kernel
theorem dX4_told_53 : decode cX4_told 53 = .ok (.iload_n 1, 1) := by decide +kernel
theorem dX4_told_54 : decode cX4_told 54 = .ok (.bipush 10, 2) := by decide +kernel
theorem dX4_told_56 : decode cX4_told 56 = .ok (.isub, 1) := by decide +kernel
theorem dX4_told_57 : decode cX4_told 57 = .ok (.invokevirtual 61, 3) := by decide +kernel
theorem dX4_told_60 : decode cX4_told 60 = .ok (.ifCond .eq 18, 3) := by decide +kernel
theorem dX4_told_63 : decode cX4_told 63 = .ok (.aload_n 0, 1) := by decide +kernel
theorem dX4_told_64 : decode cX4_told 64 = .ok (.getfield 13, 3) := by decide +kernel
theorem dX4_told_67 : decode cX4_told 67 = .ok (.iload_n 1, 1) := by decide +kernel
theorem dX4_told_68 : decode cX4_told 68 = .ok (.bipush 10, 2) := by decide +kernel
theorem dX4_told_70 : decode cX4_told 70 = .ok (.isub, 1) := by decide +kernel
theorem dX4_told_71 : decode cX4_told 71 = .ok (.aaload, 1) := by decide +kernel
theorem dX4_told_72 : decode cX4_told 72 = .ok (.getfield 81, 3) := by decide +kernel
theorem dX4_told_75 : decode cX4_told 75 = .ok (.goto 5, 3) := by decide +kernel
theorem dX4_told_78 : decode cX4_told 78 = .ok (.bipush (-2), 2) := by decide +kernel
theorem dX4_told_80 : decode cX4_told 80 = .ok (.ireturn, 1) := by decide +kernel
theorem dX4_isWithin_0 : decode cX4_isWithin 0 = .ok (.iload_n 0, 1) := by decide +kernel
theorem dX4_isWithin_1 : decode cX4_isWithin 1 = .ok (.iload_n 1, 1) := by decide +kernel
theorem dX4_isWithin_2 : decode cX4_isWithin 2 = .ok (.if_icmp .lt 12, 3) := by decide +kernel
theorem dX4_isWithin_5 : decode cX4_isWithin 5 = .ok (.iload_n 0, 1) := by decide +kernel
theorem dX4_isWithin_6 : decode cX4_isWithin 6 = .ok (.iload_n 2, 1) := by decide +kernel
theorem dX4_isWithin_7 : decode cX4_isWithin 7 = .ok (.if_icmp .gt 7, 3) := by decide +kernel
theorem dX4_isWithin_10 : decode cX4_isWithin 10 = .ok (.iconst 1, 1) := by decide +kernel
theorem dX4_isWithin_11 : decode cX4_isWithin 11 = .ok (.goto 4, 3) := by decide +kernel
theorem dX4_isWithin_14 : decode cX4_isWithin 14 = .ok (.iconst 0, 1) := by decide +kernel
theorem dX4_isWithin_15 : decode cX4_isWithin 15 = .ok (.ireturn, 1) := by decide +kernel
theorem dX4_isDay_0 : decode cX4_isDay 0 = .ok (.iload_n 0, 1) := by decide +kernel
theorem dX4_isDay_1 : decode cX4_isDay 1 = .ok (.iconst 0, 1) := by decide +kernel
theorem dX4_isDay_2 : decode cX4_isDay 2 = .ok (.sipush 400, 3) := by decide +kernel
theorem dX4_isDay_5 : decode cX4_isDay 5 = .ok (.invokestatic 54, 3) := by decide +kernel
theorem dX4_isDay_8 : decode cX4_isDay 8 = .ok (.ireturn, 1) := by decide +kernel
theorem dX4_areDays_0 : decode cX4_areDays 0 = .ok (.iload_n 0, 1) := by decide +kernel
theorem dX4_areDays_1 : decode cX4_areDays 1 = .ok (.invokestatic 68, 3) := by decide +kernel
theorem dX4_areDays_4 : decode cX4_areDays 4 = .ok (.ifCond .eq 19, 3) := by decide +kernel
theorem dX4_areDays_7 : decode cX4_areDays 7 = .ok (.iload_n 1, 1) := by decide +kernel
theorem dX4_areDays_8 : decode cX4_areDays 8 = .ok (.invokestatic 68, 3) := by decide +kernel
theorem dX4_areDays_11 : decode cX4_areDays 11 = .ok (.ifCond .eq 12, 3) := by decide +kernel
theorem dX4_areDays_14 : decode cX4_areDays 14 = .ok (.iload_n 0, 1) := by decide +kernel
theorem dX4_areDays_15 : decode cX4_areDays 15 = .ok (.iload_n 1, 1) := by decide +kernel
theorem dX4_areDays_16 : decode cX4_areDays 16 = .ok (.if_icmp .gt 7, 3) := by decide +kernel
theorem dX4_areDays_19 : decode cX4_areDays 19 = .ok (.iconst 1, 1) := by decide +kernel
theorem dX4_areDays_20 : decode cX4_areDays 20 = .ok (.goto 4, 3) := by decide +kernel
theorem dX4_areDays_23 : decode cX4_areDays 23 = .ok (.iconst 0, 1) := by decide +kernel
theorem dX4_areDays_24 : decode cX4_areDays 24 = .ok (.ireturn, 1) := by decide +kernel
theorem dX4_isFlow_0 : decode cX4_isFlow 0 = .ok (.iload_n 0, 1) := by decide +kernel
theorem dX4_isFlow_1 : decode cX4_isFlow 1 = .ok (.iconst 1, 1) := by decide +kernel
theorem dX4_isFlow_2 : decode cX4_isFlow 2 = .ok (.sipush 10000, 3) := by decide +kernel
theorem dX4_isFlow_5 : decode cX4_isFlow 5 = .ok (.invokestatic 54, 3) := by decide +kernel
theorem dX4_isFlow_8 : decode cX4_isFlow 8 = .ok (.ireturn, 1) := by decide +kernel
theorem dX4_isLine_0 : decode cX4_isLine 0 = .ok (.iload_n 0, 1) := by decide +kernel
theorem dX4_isLine_1 : decode cX4_isLine 1 = .ok (.iconst 0, 1) := by decide +kernel
theorem dX4_isLine_2 : decode cX4_isLine 2 = .ok (.iconst 3, 1) := by decide +kernel
theorem dX4_isLine_3 : decode cX4_isLine 3 = .ok (.invokestatic 54, 3) := by decide +kernel
theorem dX4_isLine_6 : decode cX4_isLine 6 = .ok (.ireturn, 1) := by decide +kernel
theorem dX4_isSheet_0 : decode cX4_isSheet 0 = .ok (.iload_n 0, 1) := by decide +kernel
theorem dX4_isSheet_1 : decode cX4_isSheet 1 = .ok (.iconst 0, 1) := by decide +kernel
theorem dX4_isSheet_2 : decode cX4_isSheet 2 = .ok (.iconst 3, 1) := by decide +kernel
theorem dX4_isSheet_3 : decode cX4_isSheet 3 = .ok (.invokestatic 54, 3) := by decide +kernel
theorem dX4_isSheet_6 : decode cX4_isSheet 6 = .ok (.ireturn, 1) := by decide +kernel
theorem dX4_isLane_0 : decode cX4_isLane 0 = .ok (.iload_n 0, 1) := by decide +kernel
theorem dX4_isLane_1 : decode cX4_isLane 1 = .ok (.iconst 0, 1) := by decide +kernel
theorem dX4_isLane_2 : decode cX4_isLane 2 = .ok (.iconst 2, 1) := by decide +kernel
theorem dX4_isLane_3 : decode cX4_isLane 3 = .ok (.invokestatic 54, 3) := by decide +kernel
theorem dX4_isLane_6 : decode cX4_isLane 6 = .ok (.ireturn, 1) := by decide +kernel
theorem dX4_isMeter_0 : decode cX4_isMeter 0 = .ok (.iload_n 1, 1) := by decide +kernel
theorem dX4_isMeter_1 : decode cX4_isMeter 1 = .ok (.iconst 0, 1) := by decide +kernel
theorem dX4_isMeter_2 : decode cX4_isMeter 2 = .ok (.aload_n 0, 1) := by decide +kernel
theorem dX4_isMeter_3 : decode cX4_isMeter 3 = .ok (.getfield 17, 3) := by decide +kernel
theorem dX4_isMeter_6 : decode cX4_isMeter 6 = .ok (.iconst 1, 1) := by decide +kernel
theorem dX4_isMeter_7 : decode cX4_isMeter 7 = .ok (.isub, 1) := by decide +kernel
theorem dX4_isMeter_8 : decode cX4_isMeter 8 = .ok (.invokestatic 54, 3) := by decide +kernel
theorem dX4_isMeter_11 : decode cX4_isMeter 11 = .ok (.ireturn, 1) := by decide +kernel
theorem dX4_isTicket_0 : decode cX4_isTicket 0 = .ok (.iload_n 1, 1) := by decide +kernel
theorem dX4_isTicket_1 : decode cX4_isTicket 1 = .ok (.iconst 0, 1) := by decide +kernel
theorem dX4_isTicket_2 : decode cX4_isTicket 2 = .ok (.aload_n 0, 1) := by decide +kernel
theorem dX4_isTicket_3 : decode cX4_isTicket 3 = .ok (.getfield 34, 3) := by decide +kernel
theorem dX4_isTicket_6 : decode cX4_isTicket 6 = .ok (.iconst 1, 1) := by decide +kernel
theorem dX4_isTicket_7 : decode cX4_isTicket 7 = .ok (.isub, 1) := by decide +kernel
theorem dX4_isTicket_8 : decode cX4_isTicket 8 = .ok (.invokestatic 54, 3) := by decide +kernel
theorem dX4_isTicket_11 : decode cX4_isTicket 11 = .ok (.ireturn, 1) := by decide +kernel
theorem dX4_isShut_0 : decode cX4_isShut 0 = .ok (.iload_n 1, 1) := by decide +kernel
theorem dX4_isShut_1 : decode cX4_isShut 1 = .ok (.aload_n 0, 1) := by decide +kernel
theorem dX4_isShut_2 : decode cX4_isShut 2 = .ok (.getfield 37, 3) := by decide +kernel
theorem dX4_isShut_5 : decode cX4_isShut 5 = .ok (.if_icmp .gt 7, 3) := by decide +kernel
theorem dX4_isShut_8 : decode cX4_isShut 8 = .ok (.iconst 1, 1) := by decide +kernel
theorem dX4_isShut_9 : decode cX4_isShut 9 = .ok (.goto 4, 3) := by decide +kernel
theorem dX4_isShut_12 : decode cX4_isShut 12 = .ok (.iconst 0, 1) := by decide +kernel
theorem dX4_isShut_13 : decode cX4_isShut 13 = .ok (.ireturn, 1) := by decide +kernel
theorem dX4_rounded_0 : decode cX4_rounded 0 = .ok (.lload_n 2, 1) := by decide +kernel
theorem dX4_rounded_1 : decode cX4_rounded 1 = .ok (.lconst 0, 1) := by decide +kernel
theorem dX4_rounded_2 : decode cX4_rounded 2 = .ok (.lcmp, 1) := by decide +kernel
theorem dX4_rounded_3 : decode cX4_rounded 3 = .ok (.ifCond .gt 5, 3) := by decide +kernel
theorem dX4_rounded_6 : decode cX4_rounded 6 = .ok (.lconst 0, 1) := by decide +kernel
theorem dX4_rounded_7 : decode cX4_rounded 7 = .ok (.lreturn, 1) := by decide +kernel
theorem dX4_rounded_8 : decode cX4_rounded 8 = .ok (.ldc2_w 285, 3) := by decide +kernel
theorem dX4_rounded_11 : decode cX4_rounded 11 = .ok (.lload_n 0, 1) := by decide +kernel
theorem dX4_rounded_12 : decode cX4_rounded 12 = .ok (.lmul, 1) := by decide +kernel
theorem dX4_rounded_13 : decode cX4_rounded 13 = .ok (.lload_n 2, 1) := by decide +kernel
theorem dX4_rounded_14 : decode cX4_rounded 14 = .ok (.ladd, 1) := by decide +kernel
theorem dX4_rounded_15 : decode cX4_rounded 15 = .ok (.ldc2_w 285, 3) := by decide +kernel
theorem dX4_rounded_18 : decode cX4_rounded 18 = .ok (.lload_n 2, 1) := by decide +kernel
theorem dX4_rounded_19 : decode cX4_rounded 19 = .ok (.lmul, 1) := by decide +kernel
theorem dX4_rounded_20 : decode cX4_rounded 20 = .ok (.ldiv, 1) := by decide +kernel
theorem dX4_rounded_21 : decode cX4_rounded 21 = .ok (.lreturn, 1) := by decide +kernel
theorem dX4_fail_0 : decode cX4_fail 0 = .ok (.aload_n 0, 1) := by decide +kernel
theorem dX4_fail_1 : decode cX4_fail 1 = .ok (.iload_n 1, 1) := by decide +kernel
theorem dX4_fail_2 : decode cX4_fail 2 = .ok (.putfield 49, 3) := by decide +kernel
theorem dX4_fail_5 : decode cX4_fail 5 = .ok (.bipush (-10), 2) := by decide +kernel
theorem dX4_fail_7 : decode cX4_fail 7 = .ok (.iload_n 1, 1) := by decide +kernel
theorem dX4_fail_8 : decode cX4_fail 8 = .ok (.isub, 1) := by decide +kernel
theorem dX4_fail_9 : decode cX4_fail 9 = .ok (.ireturn, 1) := by decide +kernel
theorem dX4_leave_0 : decode cX4_leave 0 = .ok (.aload_n 0, 1) := by decide +kernel
theorem dX4_leave_1 : decode cX4_leave 1 = .ok (.bipush 31, 2) := by decide +kernel
theorem dX4_leave_3 : decode cX4_leave 3 = .ok (.aload_n 0, 1) := by decide +kernel
theorem dX4_leave_4 : decode cX4_leave 4 = .ok (.getfield 46, 3) := by decide +kernel
theorem dX4_leave_7 : decode cX4_leave 7 = .ok (.imul, 1) := by decide +kernel
theorem dX4_leave_8 : decode cX4_leave 8 = .ok (.iload_n 1, 1) := by decide +kernel
theorem dX4_leave_9 : decode cX4_leave 9 = .ok (.iadd, 1) := by decide +kernel
theorem dX4_leave_10 : decode cX4_leave 10 = .ok (.putfield 46, 3) := by decide +kernel
theorem dX4_leave_13 : decode cX4_leave 13 = .ok (.return_, 1) := by decide +kernel
theorem dX4_tellTicket_0 : decode cX4_tellTicket 0 = .ok (.aload_n 0, 1) := by decide +kernel
theorem dX4_tellTicket_1 : decode cX4_tellTicket 1 = .ok (.iconst 1, 1) := by decide +kernel
theorem dX4_tellTicket_2 : decode cX4_tellTicket 2 = .ok (.invokevirtual 272, 3) := by decide +kernel
theorem dX4_tellTicket_5 : decode cX4_tellTicket 5 = .ok (.aload_n 1, 1) := by decide +kernel
theorem dX4_tellTicket_6 : decode cX4_tellTicket 6 = .ok (.getfield 158, 3) := by decide +kernel
theorem dX4_tellTicket_9 : decode cX4_tellTicket 9 = .ok (.ireturn, 1) := by decide +kernel
theorem dX4_keep_0 : decode cX4_keep 0 = .ok (.aload_n 0, 1) := by decide +kernel
theorem dX4_keep_1 : decode cX4_keep 1 = .ok (.getfield 30, 3) := by decide +kernel
theorem dX4_keep_4 : decode cX4_keep 4 = .ok (.aload_n 0, 1) := by decide +kernel
theorem dX4_keep_5 : decode cX4_keep 5 = .ok (.getfield 34, 3) := by decide +kernel
theorem dX4_keep_8 : decode cX4_keep 8 = .ok (.aload_n 1, 1) := by decide +kernel
theorem dX4_keep_9 : decode cX4_keep 9 = .ok (.aastore, 1) := by decide +kernel
theorem dX4_keep_10 : decode cX4_keep 10 = .ok (.aload_n 0, 1) := by decide +kernel
theorem dX4_keep_11 : decode cX4_keep 11 = .ok (.dup, 1) := by decide +kernel
theorem dX4_keep_12 : decode cX4_keep 12 = .ok (.getfield 34, 3) := by decide +kernel
theorem dX4_keep_15 : decode cX4_keep 15 = .ok (.iconst 1, 1) := by decide +kernel
theorem dX4_keep_16 : decode cX4_keep 16 = .ok (.iadd, 1) := by decide +kernel
theorem dX4_keep_17 : decode cX4_keep 17 = .ok (.putfield 34, 3) := by decide +kernel
theorem dX4_keep_20 : decode cX4_keep 20 = .ok (.return_, 1) := by decide +kernel
theorem dX4_replace_0 : decode cX4_replace 0 = .ok (.aload_n 0, 1) := by decide +kernel
theorem dX4_replace_1 : decode cX4_replace 1 = .ok (.getfield 30, 3) := by decide +kernel
theorem dX4_replace_4 : decode cX4_replace 4 = .ok (.iload_n 1, 1) := by decide +kernel
theorem dX4_replace_5 : decode cX4_replace 5 = .ok (.aaload, 1) := by decide +kernel
theorem dX4_replace_6 : decode cX4_replace 6 = .ok (.astore 4, 2) := by decide +kernel
theorem dX4_replace_8 : decode cX4_replace 8 = .ok (.new 28, 3) := by decide +kernel
theorem dX4_replace_11 : decode cX4_replace 11 = .ok (.dup, 1) := by decide +kernel
theorem dX4_replace_12 : decode cX4_replace 12 = .ok (.aload 4, 2) := by decide +kernel
theorem dX4_replace_14 : decode cX4_replace 14 = .ok (.getfield 178, 3) := by decide +kernel
theorem dX4_replace_17 : decode cX4_replace 17 = .ok (.aload 4, 2) := by decide +kernel
theorem dX4_replace_19 : decode cX4_replace 19 = .ok (.getfield 158, 3) := by decide +kernel
theorem dX4_replace_22 : decode cX4_replace 22 = .ok (.iload_n 3, 1) := by decide +kernel
theorem dX4_replace_23 : decode cX4_replace 23 = .ok (.aload 4, 2) := by decide +kernel
theorem dX4_replace_25 : decode cX4_replace 25 = .ok (.getfield 179, 3) := by decide +kernel
theorem dX4_replace_28 : decode cX4_replace 28 = .ok (.aload_n 0, 1) := by decide +kernel
theorem dX4_replace_29 : decode cX4_replace 29 = .ok (.aload 4, 2) := by decide +kernel
theorem dX4_replace_31 : decode cX4_replace 31 = .ok (.invokevirtual 287, 3) := by decide +kernel
theorem dX4_replace_34 : decode cX4_replace 34 = .ok (.invokespecial 145, 3) := by decide +kernel
theorem dX4_replace_37 : decode cX4_replace 37 = .ok (.astore 5, 2) := by decide +kernel
theorem dX4_replace_39 : decode cX4_replace 39 = .ok (.aload 5, 2) := by decide +kernel
theorem dX4_replace_41 : decode cX4_replace 41 = .ok (.iload_n 2, 1) := by decide +kernel
theorem dX4_replace_42 : decode cX4_replace 42 = .ok (.putfield 175, 3) := by decide +kernel
theorem dX4_replace_45 : decode cX4_replace 45 = .ok (.aload 5, 2) := by decide +kernel
theorem dX4_replace_47 : decode cX4_replace 47 = .ok (.iload_n 1, 1) := by decide +kernel
theorem dX4_replace_48 : decode cX4_replace 48 = .ok (.putfield 186, 3) := by decide +kernel
theorem dX4_replace_51 : decode cX4_replace 51 = .ok (.aload 4, 2) := by decide +kernel
theorem dX4_replace_53 : decode cX4_replace 53 = .ok (.aload_n 0, 1) := by decide +kernel
theorem dX4_replace_54 : decode cX4_replace 54 = .ok (.getfield 34, 3) := by decide +kernel
theorem dX4_replace_57 : decode cX4_replace 57 = .ok (.putfield 183, 3) := by decide +kernel
theorem dX4_replace_60 : decode cX4_replace 60 = .ok (.aload_n 0, 1) := by decide +kernel
theorem dX4_replace_61 : decode cX4_replace 61 = .ok (.aload 5, 2) := by decide +kernel
theorem dX4_replace_63 : decode cX4_replace 63 = .ok (.invokevirtual 148, 3) := by decide +kernel
theorem dX4_replace_66 : decode cX4_replace 66 = .ok (.return_, 1) := by decide +kernel
theorem dX4_factorNow_0 : decode cX4_factorNow 0 = .ok (.aload_n 0, 1) := by decide +kernel
theorem dX4_factorNow_1 : decode cX4_factorNow 1 = .ok (.getfield 13, 3) := by decide +kernel
theorem dX4_factorNow_4 : decode cX4_factorNow 4 = .ok (.aload_n 1, 1) := by decide +kernel
theorem dX4_factorNow_5 : decode cX4_factorNow 5 = .ok (.getfield 178, 3) := by decide +kernel
theorem dX4_factorNow_8 : decode cX4_factorNow 8 = .ok (.aaload, 1) := by decide +kernel
theorem dX4_factorNow_9 : decode cX4_factorNow 9 = .ok (.aload_n 1, 1) := by decide +kernel
theorem dX4_factorNow_10 : decode cX4_factorNow 10 = .ok (.getfield 179, 3) := by decide +kernel
theorem dX4_factorNow_13 : decode cX4_factorNow 13 = .ok (.aload_n 1, 1) := by decide +kernel
theorem dX4_factorNow_14 : decode cX4_factorNow 14 = .ok (.getfield 158, 3) := by decide +kernel
theorem dX4_factorNow_17 : decode cX4_factorNow 17 = .ok (.invokevirtual 84, 3) := by decide +kernel
theorem dX4_factorNow_20 : decode cX4_factorNow 20 = .ok (.ireturn, 1) := by decide +kernel
theorem dX4_isToRemake_0 : decode cX4_isToRemake 0 = .ok (.aload_n 1, 1) := by decide +kernel
theorem dX4_isToRemake_1 : decode cX4_isToRemake 1 = .ok (.iload_n 2, 1) := by decide +kernel
theorem dX4_isToRemake_2 : decode cX4_isToRemake 2 = .ok (.iload_n 3, 1) := by decide +kernel
theorem dX4_isToRemake_3 : decode cX4_isToRemake 3 = .ok (.iload 4, 2) := by decide +kernel
theorem dX4_isToRemake_5 : decode cX4_isToRemake 5 = .ok (.invokevirtual 290, 3) := by decide +kernel
theorem dX4_isToRemake_8 : decode cX4_isToRemake 8 = .ok (.ifCond .eq 19, 3) := by decide +kernel
theorem dX4_isToRemake_11 : decode cX4_isToRemake 11 = .ok (.aload_n 1, 1) := by decide +kernel
theorem dX4_isToRemake_12 : decode cX4_isToRemake 12 = .ok (.getfield 180, 3) := by decide +kernel
theorem dX4_isToRemake_15 : decode cX4_isToRemake 15 = .ok (.aload_n 0, 1) := by decide +kernel
theorem dX4_isToRemake_16 : decode cX4_isToRemake 16 = .ok (.aload_n 1, 1) := by decide +kernel
theorem dX4_isToRemake_17 : decode cX4_isToRemake 17 = .ok (.invokevirtual 287, 3) := by decide +kernel
theorem dX4_isToRemake_20 : decode cX4_isToRemake 20 = .ok (.if_icmp .eq 7, 3) := by decide +kernel
theorem dX4_isToRemake_23 : decode cX4_isToRemake 23 = .ok (.iconst 1, 1) := by decide +kernel
theorem dX4_isToRemake_24 : decode cX4_isToRemake 24 = .ok (.goto 4, 3) := by decide +kernel
theorem dX4_isToRemake_27 : decode cX4_isToRemake 27 = .ok (.iconst 0, 1) := by decide +kernel
theorem dX4_isToRemake_28 : decode cX4_isToRemake 28 = .ok (.ireturn, 1) := by decide +kernel
theorem dX4_volumeOf_0 : decode cX4_volumeOf 0 = .ok (.ldc2_w 292, 3) := by decide +kernel
theorem dX4_volumeOf_3 : decode cX4_volumeOf 3 = .ok (.aload_n 1, 1) := by decide +kernel
theorem dX4_volumeOf_4 : decode cX4_volumeOf 4 = .ok (.getfield 172, 3) := by decide +kernel
theorem dX4_volumeOf_7 : decode cX4_volumeOf 7 = .ok (.i2l, 1) := by decide +kernel
theorem dX4_volumeOf_8 : decode cX4_volumeOf 8 = .ok (.lmul, 1) := by decide +kernel
theorem dX4_volumeOf_9 : decode cX4_volumeOf 9 = .ok (.aload_n 1, 1) := by decide +kernel
theorem dX4_volumeOf_10 : decode cX4_volumeOf 10 = .ok (.getfield 180, 3) := by decide +kernel
theorem dX4_volumeOf_13 : decode cX4_volumeOf 13 = .ok (.i2l, 1) := by decide +kernel
theorem dX4_volumeOf_14 : decode cX4_volumeOf 14 = .ok (.lmul, 1) := by decide +kernel
theorem dX4_volumeOf_15 : decode cX4_volumeOf 15 = .ok (.aload_n 0, 1) := by decide +kernel
theorem dX4_volumeOf_16 : decode cX4_volumeOf 16 = .ok (.getfield 13, 3) := by decide +kernel
theorem dX4_volumeOf_19 : decode cX4_volumeOf 19 = .ok (.aload_n 1, 1) := by decide +kernel
theorem dX4_volumeOf_20 : decode cX4_volumeOf 20 = .ok (.getfield 178, 3) := by decide +kernel
theorem dX4_volumeOf_23 : decode cX4_volumeOf 23 = .ok (.aaload, 1) := by decide +kernel
theorem dX4_volumeOf_24 : decode cX4_volumeOf 24 = .ok (.getfield 130, 3) := by decide +kernel
theorem dX4_volumeOf_27 : decode cX4_volumeOf 27 = .ok (.i2l, 1) := by decide +kernel
theorem dX4_volumeOf_28 : decode cX4_volumeOf 28 = .ok (.invokestatic 294, 3) := by decide +kernel
theorem dX4_volumeOf_31 : decode cX4_volumeOf 31 = .ok (.lreturn, 1) := by decide +kernel
theorem dX4_sumOf_0 : decode cX4_sumOf 0 = .ok (.lconst 0, 1) := by decide +kernel
theorem dX4_sumOf_1 : decode cX4_sumOf 1 = .ok (.lstore 4, 2) := by decide +kernel
theorem dX4_sumOf_3 : decode cX4_sumOf 3 = .ok (.iconst 0, 1) := by decide +kernel
theorem dX4_sumOf_4 : decode cX4_sumOf 4 = .ok (.istore 6, 2) := by decide +kernel
theorem dX4_sumOf_6 : decode cX4_sumOf 6 = .ok (.iload 6, 2) := by decide +kernel
theorem dX4_sumOf_8 : decode cX4_sumOf 8 = .ok (.aload_n 0, 1) := by decide +kernel
theorem dX4_sumOf_9 : decode cX4_sumOf 9 = .ok (.getfield 34, 3) := by decide +kernel
theorem dX4_sumOf_12 : decode cX4_sumOf 12 = .ok (.if_icmp .ge 41, 3) := by decide +kernel
theorem dX4_sumOf_15 : decode cX4_sumOf 15 = .ok (.aload_n 0, 1) := by decide +kernel
theorem dX4_sumOf_16 : decode cX4_sumOf 16 = .ok (.getfield 30, 3) := by decide +kernel
theorem dX4_sumOf_19 : decode cX4_sumOf 19 = .ok (.iload 6, 2) := by decide +kernel
theorem dX4_sumOf_21 : decode cX4_sumOf 21 = .ok (.aaload, 1) := by decide +kernel
theorem dX4_sumOf_22 : decode cX4_sumOf 22 = .ok (.iload_n 1, 1) := by decide +kernel
theorem dX4_sumOf_23 : decode cX4_sumOf 23 = .ok (.iload_n 2, 1) := by decide +kernel
theorem dX4_sumOf_24 : decode cX4_sumOf 24 = .ok (.iload_n 3, 1) := by decide +kernel
theorem dX4_sumOf_25 : decode cX4_sumOf 25 = .ok (.invokevirtual 290, 3) := by decide +kernel
theorem dX4_sumOf_28 : decode cX4_sumOf 28 = .ok (.ifCond .eq 19, 3) := by decide +kernel
theorem dX4_sumOf_31 : decode cX4_sumOf 31 = .ok (.lload 4, 2) := by decide +kernel
theorem dX4_sumOf_33 : decode cX4_sumOf 33 = .ok (.aload_n 0, 1) := by decide +kernel
theorem dX4_sumOf_34 : decode cX4_sumOf 34 = .ok (.aload_n 0, 1) := by decide +kernel
theorem dX4_sumOf_35 : decode cX4_sumOf 35 = .ok (.getfield 30, 3) := by decide +kernel
theorem dX4_sumOf_38 : decode cX4_sumOf 38 = .ok (.iload 6, 2) := by decide +kernel
theorem dX4_sumOf_40 : decode cX4_sumOf 40 = .ok (.aaload, 1) := by decide +kernel
theorem dX4_sumOf_41 : decode cX4_sumOf 41 = .ok (.invokevirtual 189, 3) := by decide +kernel
theorem dX4_sumOf_44 : decode cX4_sumOf 44 = .ok (.ladd, 1) := by decide +kernel
theorem dX4_sumOf_45 : decode cX4_sumOf 45 = .ok (.lstore 4, 2) := by decide +kernel
theorem dX4_sumOf_47 : decode cX4_sumOf 47 = .ok (.iinc 6 1, 3) := by decide +kernel
theorem dX4_sumOf_50 : decode cX4_sumOf 50 = .ok (.goto (-44), 3) := by decide +kernel
theorem dX4_sumOf_53 : decode cX4_sumOf 53 = .ok (.lload 4, 2) := by decide +kernel
theorem dX4_sumOf_55 : decode cX4_sumOf 55 = .ok (.lreturn, 1) := by decide +kernel
theorem dX4_countNotReplaced_0 : decode cX4_countNotReplaced 0 = .ok (.iconst 0, 1) := by decide +kernel
theorem dX4_countNotReplaced_1 : decode cX4_countNotReplaced 1 = .ok (.istore_n 1, 1) := by decide +kernel
theorem dX4_countNotReplaced_2 : decode cX4_countNotReplaced 2 = .ok (.iconst 0, 1) := by decide +kernel
theorem dX4_countNotReplaced_3 : decode cX4_countNotReplaced 3 = .ok (.istore_n 2, 1) := by decide +kernel
theorem dX4_countNotReplaced_4 : decode cX4_countNotReplaced 4 = .ok (.iload_n 2, 1) := by decide +kernel
theorem dX4_countNotReplaced_5 : decode cX4_countNotReplaced 5 = .ok (.aload_n 0, 1) := by decide +kernel
theorem dX4_countNotReplaced_6 : decode cX4_countNotReplaced 6 = .ok (.getfield 34, 3) := by decide +kernel
theorem dX4_countNotReplaced_9 : decode cX4_countNotReplaced 9 = .ok (.if_icmp .ge 29, 3) := by decide +kernel
theorem dX4_countNotReplaced_12 : decode cX4_countNotReplaced 12 = .ok (.iload_n 1, 1) := by decide +kernel
theorem dX4_countNotReplaced_13 : decode cX4_countNotReplaced 13 = .ok (.aload_n 0, 1) := by decide +kernel
theorem dX4_countNotReplaced_14 : decode cX4_countNotReplaced 14 = .ok (.getfield 30, 3) := by decide +kernel
theorem dX4_countNotReplaced_17 : decode cX4_countNotReplaced 17 = .ok (.iload_n 2, 1) := by decide +kernel
theorem dX4_countNotReplaced_18 : decode cX4_countNotReplaced 18 = .ok (.aaload, 1) := by decide +kernel
theorem dX4_countNotReplaced_19 : decode cX4_countNotReplaced 19 = .ok (.invokevirtual 155, 3) := by decide +kernel
theorem dX4_countNotReplaced_22 : decode cX4_countNotReplaced 22 = .ok (.ifCond .eq 7, 3) := by decide +kernel
theorem dX4_countNotReplaced_25 : decode cX4_countNotReplaced 25 = .ok (.iconst 0, 1) := by decide +kernel
theorem dX4_countNotReplaced_26 : decode cX4_countNotReplaced 26 = .ok (.goto 4, 3) := by decide +kernel
theorem dX4_countNotReplaced_29 : decode cX4_countNotReplaced 29 = .ok (.iconst 1, 1) := by decide +kernel
theorem dX4_countNotReplaced_30 : decode cX4_countNotReplaced 30 = .ok (.iadd, 1) := by decide +kernel
theorem dX4_countNotReplaced_31 : decode cX4_countNotReplaced 31 = .ok (.istore_n 1, 1) := by decide +kernel
theorem dX4_countNotReplaced_32 : decode cX4_countNotReplaced 32 = .ok (.iinc 2 1, 3) := by decide +kernel
theorem dX4_countNotReplaced_35 : decode cX4_countNotReplaced 35 = .ok (.goto (-31), 3) := by decide +kernel
theorem dX4_countNotReplaced_38 : decode cX4_countNotReplaced 38 = .ok (.iload_n 1, 1) := by decide +kernel
theorem dX4_countNotReplaced_39 : decode cX4_countNotReplaced 39 = .ok (.ireturn, 1) := by decide +kernel
theorem dX4_imbalanceOf_0 : decode cX4_imbalanceOf 0 = .ok (.lconst 0, 1) := by decide +kernel
theorem dX4_imbalanceOf_1 : decode cX4_imbalanceOf 1 = .ok (.lstore 4, 2) := by decide +kernel
theorem dX4_imbalanceOf_3 : decode cX4_imbalanceOf 3 = .ok (.iconst 0, 1) := by decide +kernel
theorem dX4_imbalanceOf_4 : decode cX4_imbalanceOf 4 = .ok (.istore 6, 2) := by decide +kernel
theorem dX4_imbalanceOf_6 : decode cX4_imbalanceOf 6 = .ok (.iload 6, 2) := by decide +kernel
theorem dX4_imbalanceOf_8 : decode cX4_imbalanceOf 8 = .ok (.aload_n 0, 1) := by decide +kernel
theorem dX4_imbalanceOf_9 : decode cX4_imbalanceOf 9 = .ok (.getfield 17, 3) := by decide +kernel
theorem dX4_imbalanceOf_12 : decode cX4_imbalanceOf 12 = .ok (.if_icmp .ge 36, 3) := by decide +kernel
theorem dX4_imbalanceOf_15 : decode cX4_imbalanceOf 15 = .ok (.lload 4, 2) := by decide +kernel
theorem dX4_imbalanceOf_17 : decode cX4_imbalanceOf 17 = .ok (.aload_n 0, 1) := by decide +kernel
theorem dX4_imbalanceOf_18 : decode cX4_imbalanceOf 18 = .ok (.getfield 13, 3) := by decide +kernel
theorem dX4_imbalanceOf_21 : decode cX4_imbalanceOf 21 = .ok (.iload 6, 2) := by decide +kernel
theorem dX4_imbalanceOf_23 : decode cX4_imbalanceOf 23 = .ok (.aaload, 1) := by decide +kernel
theorem dX4_imbalanceOf_24 : decode cX4_imbalanceOf 24 = .ok (.getfield 200, 3) := by decide +kernel
theorem dX4_imbalanceOf_27 : decode cX4_imbalanceOf 27 = .ok (.iload_n 1, 1) := by decide +kernel
theorem dX4_imbalanceOf_28 : decode cX4_imbalanceOf 28 = .ok (.iaload, 1) := by decide +kernel
theorem dX4_imbalanceOf_29 : decode cX4_imbalanceOf 29 = .ok (.i2l, 1) := by decide +kernel
theorem dX4_imbalanceOf_30 : decode cX4_imbalanceOf 30 = .ok (.aload_n 0, 1) := by decide +kernel
theorem dX4_imbalanceOf_31 : decode cX4_imbalanceOf 31 = .ok (.iload 6, 2) := by decide +kernel
theorem dX4_imbalanceOf_33 : decode cX4_imbalanceOf 33 = .ok (.iload_n 2, 1) := by decide +kernel
theorem dX4_imbalanceOf_34 : decode cX4_imbalanceOf 34 = .ok (.iload_n 3, 1) := by decide +kernel
theorem dX4_imbalanceOf_35 : decode cX4_imbalanceOf 35 = .ok (.invokevirtual 193, 3) := by decide +kernel
theorem dX4_imbalanceOf_38 : decode cX4_imbalanceOf 38 = .ok (.lmul, 1) := by decide +kernel
theorem dX4_imbalanceOf_39 : decode cX4_imbalanceOf 39 = .ok (.ladd, 1) := by decide +kernel
theorem dX4_imbalanceOf_40 : decode cX4_imbalanceOf 40 = .ok (.lstore 4, 2) := by decide +kernel
theorem dX4_imbalanceOf_42 : decode cX4_imbalanceOf 42 = .ok (.iinc 6 1, 3) := by decide +kernel
theorem dX4_imbalanceOf_45 : decode cX4_imbalanceOf 45 = .ok (.goto (-39), 3) := by decide +kernel
theorem dX4_imbalanceOf_48 : decode cX4_imbalanceOf 48 = .ok (.lload 4, 2) := by decide +kernel
theorem dX4_imbalanceOf_50 : decode cX4_imbalanceOf 50 = .ok (.lreturn, 1) := by decide +kernel
theorem dX4_endsOf_0 : decode cX4_endsOf 0 = .ok (.lconst 0, 1) := by decide +kernel
theorem dX4_endsOf_1 : decode cX4_endsOf 1 = .ok (.lstore 4, 2) := by decide +kernel
theorem dX4_endsOf_3 : decode cX4_endsOf 3 = .ok (.iconst 0, 1) := by decide +kernel
theorem dX4_endsOf_4 : decode cX4_endsOf 4 = .ok (.istore 6, 2) := by decide +kernel
theorem dX4_endsOf_6 : decode cX4_endsOf 6 = .ok (.iload 6, 2) := by decide +kernel
theorem dX4_endsOf_8 : decode cX4_endsOf 8 = .ok (.aload_n 0, 1) := by decide +kernel
theorem dX4_endsOf_9 : decode cX4_endsOf 9 = .ok (.getfield 17, 3) := by decide +kernel
theorem dX4_endsOf_12 : decode cX4_endsOf 12 = .ok (.if_icmp .ge 53, 3) := by decide +kernel
theorem dX4_endsOf_15 : decode cX4_endsOf 15 = .ok (.aload_n 0, 1) := by decide +kernel
theorem dX4_endsOf_16 : decode cX4_endsOf 16 = .ok (.getfield 13, 3) := by decide +kernel
theorem dX4_endsOf_19 : decode cX4_endsOf 19 = .ok (.iload 6, 2) := by decide +kernel
theorem dX4_endsOf_21 : decode cX4_endsOf 21 = .ok (.aaload, 1) := by decide +kernel
theorem dX4_endsOf_22 : decode cX4_endsOf 22 = .ok (.getfield 200, 3) := by decide +kernel
theorem dX4_endsOf_25 : decode cX4_endsOf 25 = .ok (.iload_n 1, 1) := by decide +kernel
theorem dX4_endsOf_26 : decode cX4_endsOf 26 = .ok (.iaload, 1) := by decide +kernel
theorem dX4_endsOf_27 : decode cX4_endsOf 27 = .ok (.ifCond .eq 32, 3) := by decide +kernel
theorem dX4_endsOf_30 : decode cX4_endsOf 30 = .ok (.lload 4, 2) := by decide +kernel
theorem dX4_endsOf_32 : decode cX4_endsOf 32 = .ok (.aload_n 0, 1) := by decide +kernel
theorem dX4_endsOf_33 : decode cX4_endsOf 33 = .ok (.iload 6, 2) := by decide +kernel
theorem dX4_endsOf_35 : decode cX4_endsOf 35 = .ok (.iload_n 2, 1) := by decide +kernel
theorem dX4_endsOf_36 : decode cX4_endsOf 36 = .ok (.iload_n 3, 1) := by decide +kernel
theorem dX4_endsOf_37 : decode cX4_endsOf 37 = .ok (.invokevirtual 193, 3) := by decide +kernel
theorem dX4_endsOf_40 : decode cX4_endsOf 40 = .ok (.aload_n 0, 1) := by decide +kernel
theorem dX4_endsOf_41 : decode cX4_endsOf 41 = .ok (.getfield 13, 3) := by decide +kernel
theorem dX4_endsOf_44 : decode cX4_endsOf 44 = .ok (.iload 6, 2) := by decide +kernel
theorem dX4_endsOf_46 : decode cX4_endsOf 46 = .ok (.aaload, 1) := by decide +kernel
theorem dX4_endsOf_47 : decode cX4_endsOf 47 = .ok (.getfield 203, 3) := by decide +kernel
theorem dX4_endsOf_50 : decode cX4_endsOf 50 = .ok (.i2l, 1) := by decide +kernel
theorem dX4_endsOf_51 : decode cX4_endsOf 51 = .ok (.lmul, 1) := by decide +kernel
theorem dX4_endsOf_52 : decode cX4_endsOf 52 = .ok (.ldc2_w 297, 3) := by decide +kernel
theorem dX4_endsOf_55 : decode cX4_endsOf 55 = .ok (.ldiv, 1) := by decide +kernel
theorem dX4_endsOf_56 : decode cX4_endsOf 56 = .ok (.ladd, 1) := by decide +kernel
theorem dX4_endsOf_57 : decode cX4_endsOf 57 = .ok (.lstore 4, 2) := by decide +kernel
theorem dX4_endsOf_59 : decode cX4_endsOf 59 = .ok (.iinc 6 1, 3) := by decide +kernel
theorem dX4_endsOf_62 : decode cX4_endsOf 62 = .ok (.goto (-56), 3) := by decide +kernel
theorem dX4_endsOf_65 : decode cX4_endsOf 65 = .ok (.lload 4, 2) := by decide +kernel
theorem dX4_endsOf_67 : decode cX4_endsOf 67 = .ok (.lreturn, 1) := by decide +kernel
theorem dX4_linesBeyond_0 : decode cX4_linesBeyond 0 = .ok (.iconst 0, 1) := by decide +kernel
theorem dX4_linesBeyond_1 : decode cX4_linesBeyond 1 = .ok (.istore_n 3, 1) := by decide +kernel
theorem dX4_linesBeyond_2 : decode cX4_linesBeyond 2 = .ok (.iconst 0, 1) := by decide +kernel
theorem dX4_linesBeyond_3 : decode cX4_linesBeyond 3 = .ok (.istore 4, 2) := by decide +kernel
theorem dX4_linesBeyond_5 : decode cX4_linesBeyond 5 = .ok (.iload 4, 2) := by decide +kernel
theorem dX4_linesBeyond_7 : decode cX4_linesBeyond 7 = .ok (.iconst 4, 1) := by decide +kernel
theorem dX4_linesBeyond_8 : decode cX4_linesBeyond 8 = .ok (.if_icmp .ge 39, 3) := by decide +kernel
theorem dX4_linesBeyond_11 : decode cX4_linesBeyond 11 = .ok (.aload_n 0, 1) := by decide +kernel
theorem dX4_linesBeyond_12 : decode cX4_linesBeyond 12 = .ok (.iload 4, 2) := by decide +kernel
theorem dX4_linesBeyond_14 : decode cX4_linesBeyond 14 = .ok (.iload_n 1, 1) := by decide +kernel
theorem dX4_linesBeyond_15 : decode cX4_linesBeyond 15 = .ok (.iload_n 2, 1) := by decide +kernel
theorem dX4_linesBeyond_16 : decode cX4_linesBeyond 16 = .ok (.invokevirtual 206, 3) := by decide +kernel
theorem dX4_linesBeyond_19 : decode cX4_linesBeyond 19 = .ok (.invokestatic 299, 3) := by decide +kernel
theorem dX4_linesBeyond_22 : decode cX4_linesBeyond 22 = .ok (.aload_n 0, 1) := by decide +kernel
theorem dX4_linesBeyond_23 : decode cX4_linesBeyond 23 = .ok (.iload 4, 2) := by decide +kernel
theorem dX4_linesBeyond_25 : decode cX4_linesBeyond 25 = .ok (.iload_n 1, 1) := by decide +kernel
theorem dX4_linesBeyond_26 : decode cX4_linesBeyond 26 = .ok (.iload_n 2, 1) := by decide +kernel
theorem dX4_linesBeyond_27 : decode cX4_linesBeyond 27 = .ok (.invokevirtual 209, 3) := by decide +kernel
theorem dX4_linesBeyond_30 : decode cX4_linesBeyond 30 = .ok (.lcmp, 1) := by decide +kernel
theorem dX4_linesBeyond_31 : decode cX4_linesBeyond 31 = .ok (.ifCond .le 10, 3) := by decide +kernel
theorem dX4_linesBeyond_34 : decode cX4_linesBeyond 34 = .ok (.iload_n 3, 1) := by decide +kernel
theorem dX4_linesBeyond_35 : decode cX4_linesBeyond 35 = .ok (.iconst 1, 1) := by decide +kernel
theorem dX4_linesBeyond_36 : decode cX4_linesBeyond 36 = .ok (.iload 4, 2) := by decide +kernel
theorem dX4_linesBeyond_38 : decode cX4_linesBeyond 38 = .ok (.ishl, 1) := by decide +kernel
theorem dX4_linesBeyond_39 : decode cX4_linesBeyond 39 = .ok (.ior, 1) := by decide +kernel
theorem dX4_linesBeyond_40 : decode cX4_linesBeyond 40 = .ok (.istore_n 3, 1) := by decide +kernel
theorem dX4_linesBeyond_41 : decode cX4_linesBeyond 41 = .ok (.iinc 4 1, 3) := by decide +kernel
theorem dX4_linesBeyond_44 : decode cX4_linesBeyond 44 = .ok (.goto (-39), 3) := by decide +kernel
theorem dX4_linesBeyond_47 : decode cX4_linesBeyond 47 = .ok (.iload_n 3, 1) := by decide +kernel
theorem dX4_linesBeyond_48 : decode cX4_linesBeyond 48 = .ok (.ireturn, 1) := by decide +kernel
theorem dX5_init_0 : decode cX5_init 0 = .ok (.aload_n 0, 1) := by decide +kernel
theorem dX5_init_1 : decode cX5_init 1 = .ok (.invokespecial 1, 3) := by decide +kernel
theorem dX5_init_4 : decode cX5_init 4 = .ok (.aload_n 0, 1) := by decide +kernel
theorem dX5_init_5 : decode cX5_init 5 = .ok (.bipush 6, 2) := by decide +kernel
theorem dX5_init_7 : decode cX5_init 7 = .ok (.newarray .int, 2) := by decide +kernel
theorem dX5_init_9 : decode cX5_init 9 = .ok (.putfield 7, 3) := by decide +kernel
theorem dX5_init_12 : decode cX5_init 12 = .ok (.aload_n 0, 1) := by decide +kernel
theorem dX5_init_13 : decode cX5_init 13 = .ok (.bipush 6, 2) := by decide +kernel
theorem dX5_init_15 : decode cX5_init 15 = .ok (.newarray .int, 2) := by decide +kernel
theorem dX5_init_17 : decode cX5_init 17 = .ok (.putfield 13, 3) := by decide +kernel
theorem dX5_init_20 : decode cX5_init 20 = .ok (.aload_n 0, 1) := by decide +kernel
theorem dX5_init_21 : decode cX5_init 21 = .ok (.bipush 72, 2) := by decide +kernel
theorem dX5_init_23 : decode cX5_init 23 = .ok (.newarray .int, 2) := by decide +kernel
theorem dX5_init_25 : decode cX5_init 25 = .ok (.putfield 16, 3) := by decide +kernel
theorem dX5_init_28 : decode cX5_init 28 = .ok (.aload_n 0, 1) := by decide +kernel
theorem dX5_init_29 : decode cX5_init 29 = .ok (.bipush 72, 2) := by decide +kernel
theorem dX5_init_31 : decode cX5_init 31 = .ok (.newarray .int, 2) := by decide +kernel
theorem dX5_init_33 : decode cX5_init 33 = .ok (.putfield 19, 3) := by decide +kernel
theorem dX5_init_36 : decode cX5_init 36 = .ok (.aload_n 0, 1) := by decide +kernel
theorem dX5_init_37 : decode cX5_init 37 = .ok (.bipush 72, 2) := by decide +kernel
theorem dX5_init_39 : decode cX5_init 39 = .ok (.newarray .int, 2) := by decide +kernel
theorem dX5_init_41 : decode cX5_init 41 = .ok (.putfield 22, 3) := by decide +kernel
theorem dX5_init_44 : decode cX5_init 44 = .ok (.aload_n 0, 1) := by decide +kernel
theorem dX5_init_45 : decode cX5_init 45 = .ok (.bipush 6, 2) := by decide +kernel
theorem dX5_init_47 : decode cX5_init 47 = .ok (.newarray .int, 2) := by decide +kernel
theorem dX5_init_49 : decode cX5_init 49 = .ok (.putfield 25, 3) := by decide +kernel
theorem dX5_init_52 : decode cX5_init 52 = .ok (.aload_n 0, 1) := by decide +kernel
theorem dX5_init_53 : decode cX5_init 53 = .ok (.bipush 13, 2) := by decide +kernel
theorem dX5_init_55 : decode cX5_init 55 = .ok (.newarray .int, 2) := by decide +kernel
theorem dX5_init_57 : decode cX5_init 57 = .ok (.putfield 28, 3) := by decide +kernel
theorem dX5_init_60 : decode cX5_init 60 = .ok (.aload_n 0, 1) := by decide +kernel
theorem dX5_init_61 : decode cX5_init 61 = .ok (.bipush 13, 2) := by decide +kernel
theorem dX5_init_63 : decode cX5_init 63 = .ok (.newarray .int, 2) := by decide +kernel
theorem dX5_init_65 : decode cX5_init 65 = .ok (.putfield 31, 3) := by decide +kernel
theorem dX5_init_68 : decode cX5_init 68 = .ok (.aload_n 0, 1) := by decide +kernel
theorem dX5_init_69 : decode cX5_init 69 = .ok (.bipush 13, 2) := by decide +kernel
theorem dX5_init_71 : decode cX5_init 71 = .ok (.newarray .int, 2) := by decide +kernel
theorem dX5_init_73 : decode cX5_init 73 = .ok (.putfield 34, 3) := by decide +kernel
theorem dX5_init_76 : decode cX5_init 76 = .ok (.aload_n 0, 1) := by decide +kernel
theorem dX5_init_77 : decode cX5_init 77 = .ok (.bipush 12, 2) := by decide +kernel
theorem dX5_init_79 : decode cX5_init 79 = .ok (.newarray .long, 2) := by decide +kernel
theorem dX5_init_81 : decode cX5_init 81 = .ok (.putfield 37, 3) := by decide +kernel
theorem dX5_init_84 : decode cX5_init 84 = .ok (.aload_n 0, 1) := by decide +kernel
theorem dX5_init_85 : decode cX5_init 85 = .ok (.bipush 40, 2) := by decide +kernel
theorem dX5_init_87 : decode cX5_init 87 = .ok (.newarray .int, 2) := by decide +kernel
theorem dX5_init_89 : decode cX5_init 89 = .ok (.putfield 41, 3) := by decide +kernel
theorem dX5_init_92 : decode cX5_init 92 = .ok (.aload_n 0, 1) := by decide +kernel
theorem dX5_init_93 : decode cX5_init 93 = .ok (.bipush 40, 2) := by decide +kernel
theorem dX5_init_95 : decode cX5_init 95 = .ok (.newarray .int, 2) := by decide +kernel
theorem dX5_init_97 : decode cX5_init 97 = .ok (.putfield 44, 3) := by decide +kernel
theorem dX5_init_100 : decode cX5_init 100 = .ok (.aload_n 0, 1) := by decide +kernel
theorem dX5_init_101 : decode cX5_init 101 = .ok (.bipush 40, 2) := by decide +kernel
theorem dX5_init_103 : decode cX5_init 103 = .ok (.newarray .int, 2) := by decide +kernel
theorem dX5_init_105 : decode cX5_init 105 = .ok (.putfield 47, 3) := by decide +kernel
theorem dX5_init_108 : decode cX5_init 108 = .ok (.aload_n 0, 1) := by decide +kernel
theorem dX5_init_109 : decode cX5_init 109 = .ok (.bipush 40, 2) := by decide +kernel
theorem dX5_init_111 : decode cX5_init 111 = .ok (.newarray .int, 2) := by decide +kernel
theorem dX5_init_113 : decode cX5_init 113 = .ok (.putfield 50, 3) := by decide +kernel
theorem dX5_init_116 : decode cX5_init 116 = .ok (.aload_n 0, 1) := by decide +kernel
theorem dX5_init_117 : decode cX5_init 117 = .ok (.bipush 40, 2) := by decide +kernel
theorem dX5_init_119 : decode cX5_init 119 = .ok (.newarray .int, 2) := by decide +kernel
theorem dX5_init_121 : decode cX5_init 121 = .ok (.putfield 53, 3) := by decide +kernel
theorem dX5_init_124 : decode cX5_init 124 = .ok (.aload_n 0, 1) := by decide +kernel
theorem dX5_init_125 : decode cX5_init 125 = .ok (.bipush 40, 2) := by decide +kernel
theorem dX5_init_127 : decode cX5_init 127 = .ok (.newarray .int, 2) := by decide +kernel
theorem dX5_init_129 : decode cX5_init 129 = .ok (.putfield 56, 3) := by decide +kernel
theorem dX5_init_132 : decode cX5_init 132 = .ok (.aload_n 0, 1) := by decide +kernel
theorem dX5_init_133 : decode cX5_init 133 = .ok (.bipush 40, 2) := by decide +kernel
theorem dX5_init_135 : decode cX5_init 135 = .ok (.newarray .int, 2) := by decide +kernel
theorem dX5_init_137 : decode cX5_init 137 = .ok (.putfield 59, 3) := by decide +kernel
theorem dX5_init_140 : decode cX5_init 140 = .ok (.aload_n 0, 1) := by decide +kernel
theorem dX5_init_141 : decode cX5_init 141 = .ok (.bipush 40, 2) := by decide +kernel
theorem dX5_init_143 : decode cX5_init 143 = .ok (.newarray .int, 2) := by decide +kernel
theorem dX5_init_145 : decode cX5_init 145 = .ok (.putfield 62, 3) := by decide +kernel
theorem dX5_init_148 : decode cX5_init 148 = .ok (.aload_n 0, 1) := by decide +kernel
theorem dX5_init_149 : decode cX5_init 149 = .ok (.bipush 24, 2) := by decide +kernel
theorem dX5_init_151 : decode cX5_init 151 = .ok (.newarray .int, 2) := by decide +kernel
theorem dX5_init_153 : decode cX5_init 153 = .ok (.putfield 65, 3) := by decide +kernel
theorem dX5_init_156 : decode cX5_init 156 = .ok (.aload_n 0, 1) := by decide +kernel
theorem dX5_init_157 : decode cX5_init 157 = .ok (.iconst 4, 1) := by decide +kernel
theorem dX5_init_158 : decode cX5_init 158 = .ok (.newarray .int, 2) := by decide +kernel
theorem dX5_init_160 : decode cX5_init 160 = .ok (.putfield 68, 3) := by decide +kernel
theorem dX5_init_163 : decode cX5_init 163 = .ok (.aload_n 0, 1) := by decide +kernel
theorem dX5_init_164 : decode cX5_init 164 = .ok (.iconst 4, 1) := by decide +kernel
theorem dX5_init_165 : decode cX5_init 165 = .ok (.newarray .int, 2) := by decide +kernel
theorem dX5_init_167 : decode cX5_init 167 = .ok (.putfield 71, 3) := by decide +kernel
theorem dX5_init_170 : decode cX5_init 170 = .ok (.aload_n 0, 1) := by decide +kernel
theorem dX5_init_171 : decode cX5_init 171 = .ok (.sipush 240, 3) := by decide +kernel
theorem dX5_init_174 : decode cX5_init 174 = .ok (.newarray .int, 2) := by decide +kernel
theorem dX5_init_176 : decode cX5_init 176 = .ok (.putfield 74, 3) := by decide +kernel
theorem dX5_init_179 : decode cX5_init 179 = .ok (.aload_n 0, 1) := by decide +kernel
theorem dX5_init_180 : decode cX5_init 180 = .ok (.bipush 60, 2) := by decide +kernel
theorem dX5_init_182 : decode cX5_init 182 = .ok (.newarray .int, 2) := by decide +kernel
theorem dX5_init_184 : decode cX5_init 184 = .ok (.putfield 77, 3) := by decide +kernel
theorem dX5_init_187 : decode cX5_init 187 = .ok (.aload_n 0, 1) := by decide +kernel
theorem dX5_init_188 : decode cX5_init 188 = .ok (.bipush (-9), 2) := by decide +kernel
theorem dX5_init_190 : decode cX5_init 190 = .ok (.putfield 80, 3) := by decide +kernel
theorem dX5_init_193 : decode cX5_init 193 = .ok (.aload_n 0, 1) := by decide +kernel
theorem dX5_init_194 : decode cX5_init 194 = .ok (.iconst (-1), 1) := by decide +kernel
theorem dX5_init_195 : decode cX5_init 195 = .ok (.putfield 84, 3) := by decide +kernel
theorem dX5_init_198 : decode cX5_init 198 = .ok (.iconst 0, 1) := by decide +kernel
theorem dX5_init_199 : decode cX5_init 199 = .ok (.istore_n 1, 1) := by decide +kernel
theorem dX5_init_200 : decode cX5_init 200 = .ok (.iload_n 1, 1) := by decide +kernel
theorem dX5_init_201 : decode cX5_init 201 = .ok (.iconst 4, 1) := by decide +kernel
theorem dX5_init_202 : decode cX5_init 202 = .ok (.if_icmp .ge 16, 3) := by decide +kernel
theorem dX5_init_205 : decode cX5_init 205 = .ok (.aload_n 0, 1) := by decide +kernel
theorem dX5_init_206 : decode cX5_init 206 = .ok (.getfield 68, 3) := by decide +kernel
theorem dX5_init_209 : decode cX5_init 209 = .ok (.iload_n 1, 1) := by decide +kernel
theorem dX5_init_210 : decode cX5_init 210 = .ok (.iconst (-1), 1) := by decide +kernel
theorem dX5_init_211 : decode cX5_init 211 = .ok (.iastore, 1) := by decide +kernel
theorem dX5_init_212 : decode cX5_init 212 = .ok (.iinc 1 1, 3) := by decide +kernel
theorem dX5_init_215 : decode cX5_init 215 = .ok (.goto (-15), 3) := by decide +kernel
theorem dX5_init_218 : decode cX5_init 218 = .ok (.return_, 1) := by decide +kernel
theorem dX5_in_0 : decode cX5_in 0 = .ok (.lload_n 0, 1) := by decide +kernel
theorem dX5_in_1 : decode cX5_in 1 = .ok (.lload_n 2, 1) := by decide +kernel
theorem dX5_in_2 : decode cX5_in 2 = .ok (.lcmp, 1) := by decide +kernel
theorem dX5_in_3 : decode cX5_in 3 = .ok (.ifCond .lt 14, 3) := by decide +kernel
theorem dX5_in_6 : decode cX5_in 6 = .ok (.lload_n 0, 1) := by decide +kernel
theorem dX5_in_7 : decode cX5_in 7 = .ok (.lload 4, 2) := by decide +kernel
theorem dX5_in_9 : decode cX5_in 9 = .ok (.lcmp, 1) := by decide +kernel
theorem dX5_in_10 : decode cX5_in 10 = .ok (.ifCond .gt 7, 3) := by decide +kernel
theorem dX5_in_13 : decode cX5_in 13 = .ok (.iconst 1, 1) := by decide +kernel
theorem dX5_in_14 : decode cX5_in 14 = .ok (.goto 4, 3) := by decide +kernel
theorem dX5_in_17 : decode cX5_in 17 = .ok (.iconst 0, 1) := by decide +kernel
theorem dX5_in_18 : decode cX5_in 18 = .ok (.ireturn, 1) := by decide +kernel
theorem dX5_lost_0 : decode cX5_lost 0 = .ok (.ldc2_w 87, 3) := by decide +kernel
theorem dX5_lost_3 : decode cX5_lost 3 = .ok (.lreturn, 1) := by decide +kernel
theorem dX5_refused_0 : decode cX5_refused 0 = .ok (.aload_n 0, 1) := by decide +kernel
theorem dX5_refused_1 : decode cX5_refused 1 = .ok (.iconst 0, 1) := by decide +kernel
theorem dX5_refused_2 : decode cX5_refused 2 = .ok (.putfield 89, 3) := by decide +kernel
theorem dX5_refused_5 : decode cX5_refused 5 = .ok (.iload_n 1, 1) := by decide +kernel
theorem dX5_refused_6 : decode cX5_refused 6 = .ok (.ireturn, 1) := by decide +kernel
theorem dX5_failed_0 : decode cX5_failed 0 = .ok (.aload_n 0, 1) := by decide +kernel
theorem dX5_failed_1 : decode cX5_failed 1 = .ok (.iload_n 1, 1) := by decide +kernel
theorem dX5_failed_2 : decode cX5_failed 2 = .ok (.putfield 89, 3) := by decide +kernel
theorem dX5_failed_5 : decode cX5_failed 5 = .ok (.bipush (-10), 2) := by decide +kernel
theorem dX5_failed_7 : decode cX5_failed 7 = .ok (.iload_n 1, 1) := by decide +kernel
theorem dX5_failed_8 : decode cX5_failed 8 = .ok (.isub, 1) := by decide +kernel
theorem dX5_failed_9 : decode cX5_failed 9 = .ok (.ireturn, 1) := by decide +kernel
theorem dX5_failedLong_0 : decode cX5_failedLong 0 = .ok (.aload_n 0, 1) := by decide +kernel
theorem dX5_failedLong_1 : decode cX5_failedLong 1 = .ok (.iload_n 1, 1) := by decide +kernel
theorem dX5_failedLong_2 : decode cX5_failedLong 2 = .ok (.putfield 89, 3) := by decide +kernel
theorem dX5_failedLong_5 : decode cX5_failedLong 5 = .ok (.invokestatic 92, 3) := by decide +kernel
theorem dX5_failedLong_8 : decode cX5_failedLong 8 = .ok (.lreturn, 1) := by decide +kernel
theorem dX5_rounded_0 : decode cX5_rounded 0 = .ok (.ldc2_w 96, 3) := by decide +kernel
theorem dX5_rounded_3 : decode cX5_rounded 3 = .ok (.lload_n 0, 1) := by decide +kernel
theorem dX5_rounded_4 : decode cX5_rounded 4 = .ok (.lmul, 1) := by decide +kernel
theorem dX5_rounded_5 : decode cX5_rounded 5 = .ok (.lload_n 2, 1) := by decide +kernel
theorem dX5_rounded_6 : decode cX5_rounded 6 = .ok (.ladd, 1) := by decide +kernel
theorem dX5_rounded_7 : decode cX5_rounded 7 = .ok (.ldc2_w 96, 3) := by decide +kernel
theorem dX5_rounded_10 : decode cX5_rounded 10 = .ok (.lload_n 2, 1) := by decide +kernel
theorem dX5_rounded_11 : decode cX5_rounded 11 = .ok (.lmul, 1) := by decide +kernel
theorem dX5_rounded_12 : decode cX5_rounded 12 = .ok (.ldiv, 1) := by decide +kernel
theorem dX5_rounded_13 : decode cX5_rounded 13 = .ok (.lreturn, 1) := by decide +kernel
theorem dX5_noMeter_0 : decode cX5_noMeter 0 = .ok (.iload_n 1, 1) := by decide +kernel
theorem dX5_noMeter_1 : decode cX5_noMeter 1 = .ok (.i2l, 1) := by decide +kernel
theorem dX5_noMeter_2 : decode cX5_noMeter 2 = .ok (.lconst 0, 1) := by decide +kernel
theorem dX5_noMeter_3 : decode cX5_noMeter 3 = .ok (.aload_n 0, 1) := by decide +kernel
theorem dX5_noMeter_4 : decode cX5_noMeter 4 = .ok (.getfield 98, 3) := by decide +kernel
theorem dX5_noMeter_7 : decode cX5_noMeter 7 = .ok (.i2l, 1) := by decide +kernel
theorem dX5_noMeter_8 : decode cX5_noMeter 8 = .ok (.lconst 1, 1) := by decide +kernel
theorem dX5_noMeter_9 : decode cX5_noMeter 9 = .ok (.lsub, 1) := by decide +kernel
theorem dX5_noMeter_10 : decode cX5_noMeter 10 = .ok (.invokestatic 101, 3) := by decide +kernel
theorem dX5_noMeter_13 : decode cX5_noMeter 13 = .ok (.ifCond .ne 7, 3) := by decide +kernel
theorem dX5_noMeter_16 : decode cX5_noMeter 16 = .ok (.iconst 1, 1) := by decide +kernel
theorem dX5_noMeter_17 : decode cX5_noMeter 17 = .ok (.goto 4, 3) := by decide +kernel
theorem dX5_noMeter_20 : decode cX5_noMeter 20 = .ok (.iconst 0, 1) := by decide +kernel
theorem dX5_noMeter_21 : decode cX5_noMeter 21 = .ok (.ireturn, 1) := by decide +kernel
theorem dX5_isDay_0 : decode cX5_isDay 0 = .ok (.iload_n 0, 1) := by decide +kernel
theorem dX5_isDay_1 : decode cX5_isDay 1 = .ok (.i2l, 1) := by decide +kernel
theorem dX5_isDay_2 : decode cX5_isDay 2 = .ok (.lconst 0, 1) := by decide +kernel
theorem dX5_isDay_3 : decode cX5_isDay 3 = .ok (.ldc2_w 105, 3) := by decide +kernel
theorem dX5_isDay_6 : decode cX5_isDay 6 = .ok (.invokestatic 101, 3) := by decide +kernel
theorem dX5_isDay_9 : decode cX5_isDay 9 = .ok (.ireturn, 1) := by decide +kernel
theorem dX5_isFlow_0 : decode cX5_isFlow 0 = .ok (.iload_n 0, 1) := by decide +kernel
theorem dX5_isFlow_1 : decode cX5_isFlow 1 = .ok (.i2l, 1) := by decide +kernel
theorem dX5_isFlow_2 : decode cX5_isFlow 2 = .ok (.lconst 1, 1) := by decide +kernel
theorem dX5_isFlow_3 : decode cX5_isFlow 3 = .ok (.ldc2_w 107, 3) := by decide +kernel
theorem dX5_isFlow_6 : decode cX5_isFlow 6 = .ok (.invokestatic 101, 3) := by decide +kernel
theorem dX5_isFlow_9 : decode cX5_isFlow 9 = .ok (.ireturn, 1) := by decide +kernel
theorem dX5_isNumber_0 : decode cX5_isNumber 0 = .ok (.lload_n 0, 1) := by decide +kernel
theorem dX5_isNumber_1 : decode cX5_isNumber 1 = .ok (.ldc2_w 109, 3) := by decide +kernel
theorem dX5_isNumber_4 : decode cX5_isNumber 4 = .ok (.ldc2_w 111, 3) := by decide +kernel
theorem dX5_isNumber_7 : decode cX5_isNumber 7 = .ok (.invokestatic 101, 3) := by decide +kernel
theorem dX5_isNumber_10 : decode cX5_isNumber 10 = .ok (.ireturn, 1) := by decide +kernel
theorem dX5_meter_0 : decode cX5_meter 0 = .ok (.iload_n 1, 1) := by decide +kernel
theorem dX5_meter_1 : decode cX5_meter 1 = .ok (.i2l, 1) := by decide +kernel
theorem dX5_meter_2 : decode cX5_meter 2 = .ok (.lconst 1, 1) := by decide +kernel
theorem dX5_meter_3 : decode cX5_meter 3 = .ok (.ldc2_w 113, 3) := by decide +kernel
theorem dX5_meter_6 : decode cX5_meter 6 = .ok (.invokestatic 101, 3) := by decide +kernel
theorem dX5_meter_9 : decode cX5_meter 9 = .ok (.ifCond .ne 6, 3) := by decide +kernel
theorem dX5_meter_12 : decode cX5_meter 12 = .ok (.bipush (-2), 2) := by decide +kernel
theorem dX5_meter_14 : decode cX5_meter 14 = .ok (.ireturn, 1) := by decide +kernel
theorem dX5_meter_15 : decode cX5_meter 15 = .ok (.aload_n 0, 1) := by decide +kernel
theorem dX5_meter_16 : decode cX5_meter 16 = .ok (.getfield 98, 3) := by decide +kernel
theorem dX5_meter_19 : decode cX5_meter 19 = .ok (.bipush 6, 2) := by decide +kernel
theorem dX5_meter_21 : decode cX5_meter 21 = .ok (.if_icmp .ne 6, 3) := by decide +kernel
theorem dX5_meter_24 : decode cX5_meter 24 = .ok (.bipush (-4), 2) := by decide +kernel
theorem dX5_meter_26 : decode cX5_meter 26 = .ok (.ireturn, 1) := by decide +kernel
theorem dX5_meter_27 : decode cX5_meter 27 = .ok (.aload_n 0, 1) := by decide +kernel
theorem dX5_meter_28 : decode cX5_meter 28 = .ok (.getfield 7, 3) := by decide +kernel
theorem dX5_meter_31 : decode cX5_meter 31 = .ok (.aload_n 0, 1) := by decide +kernel
theorem dX5_meter_32 : decode cX5_meter 32 = .ok (.getfield 98, 3) := by decide +kernel
theorem dX5_meter_35 : decode cX5_meter 35 = .ok (.iload_n 1, 1) := by decide +kernel
theorem dX5_meter_36 : decode cX5_meter 36 = .ok (.iastore, 1) := by decide +kernel
theorem dX5_meter_37 : decode cX5_meter 37 = .ok (.aload_n 0, 1) := by decide +kernel
theorem dX5_meter_38 : decode cX5_meter 38 = .ok (.dup, 1) := by decide +kernel
theorem dX5_meter_39 : decode cX5_meter 39 = .ok (.getfield 98, 3) := by decide +kernel
theorem dX5_meter_42 : decode cX5_meter 42 = .ok (.iconst 1, 1) := by decide +kernel
theorem dX5_meter_43 : decode cX5_meter 43 = .ok (.iadd, 1) := by decide +kernel
theorem dX5_meter_44 : decode cX5_meter 44 = .ok (.putfield 98, 3) := by decide +kernel
theorem dX5_meter_47 : decode cX5_meter 47 = .ok (.aload_n 0, 1) := by decide +kernel
theorem dX5_meter_48 : decode cX5_meter 48 = .ok (.getfield 98, 3) := by decide +kernel
theorem dX5_meter_51 : decode cX5_meter 51 = .ok (.iconst 1, 1) := by decide +kernel
theorem dX5_meter_52 : decode cX5_meter 52 = .ok (.isub, 1) := by decide +kernel
theorem dX5_meter_53 : decode cX5_meter 53 = .ok (.ireturn, 1) := by decide +kernel
theorem dX5_addFactor_0 : decode cX5_addFactor 0 = .ok (.bipush 12, 2) := by decide +kernel
theorem dX5_addFactor_2 : decode cX5_addFactor 2 = .ok (.iload_n 1, 1) := by decide +kernel
theorem dX5_addFactor_3 : decode cX5_addFactor 3 = .ok (.imul, 1) := by decide +kernel
theorem dX5_addFactor_4 : decode cX5_addFactor 4 = .ok (.aload_n 0, 1) := by decide +kernel
theorem dX5_addFactor_5 : decode cX5_addFactor 5 = .ok (.getfield 13, 3) := by decide +kernel
theorem dX5_addFactor_8 : decode cX5_addFactor 8 = .ok (.iload_n 1, 1) := by decide +kernel
theorem dX5_addFactor_9 : decode cX5_addFactor 9 = .ok (.iaload, 1) := by decide +kernel
theorem dX5_addFactor_10 : decode cX5_addFactor 10 = .ok (.iadd, 1) := by decide +kernel
theorem dX5_addFactor_11 : decode cX5_addFactor 11 = .ok (.istore 5, 2) := by decide +kernel
theorem dX5_addFactor_13 : decode cX5_addFactor 13 = .ok (.aload_n 0, 1) := by decide +kernel
theorem dX5_addFactor_14 : decode cX5_addFactor 14 = .ok (.getfield 16, 3) := by decide +kernel
theorem dX5_addFactor_17 : decode cX5_addFactor 17 = .ok (.iload 5, 2) := by decide +kernel
theorem dX5_addFactor_19 : decode cX5_addFactor 19 = .ok (.iload_n 2, 1) := by decide +kernel
theorem dX5_addFactor_20 : decode cX5_addFactor 20 = .ok (.iastore, 1) := by decide +kernel
theorem dX5_addFactor_21 : decode cX5_addFactor 21 = .ok (.aload_n 0, 1) := by decide +kernel
theorem dX5_addFactor_22 : decode cX5_addFactor 22 = .ok (.getfield 19, 3) := by decide +kernel
theorem dX5_addFactor_25 : decode cX5_addFactor 25 = .ok (.iload 5, 2) := by decide +kernel
theorem dX5_addFactor_27 : decode cX5_addFactor 27 = .ok (.iload_n 3, 1) := by decide +kernel
theorem dX5_addFactor_28 : decode cX5_addFactor 28 = .ok (.iastore, 1) := by decide +kernel
theorem dX5_addFactor_29 : decode cX5_addFactor 29 = .ok (.aload_n 0, 1) := by decide +kernel
theorem dX5_addFactor_30 : decode cX5_addFactor 30 = .ok (.getfield 22, 3) := by decide +kernel
theorem dX5_addFactor_33 : decode cX5_addFactor 33 = .ok (.iload 5, 2) := by decide +kernel
theorem dX5_addFactor_35 : decode cX5_addFactor 35 = .ok (.iload 4, 2) := by decide +kernel
theorem dX5_addFactor_37 : decode cX5_addFactor 37 = .ok (.iastore, 1) := by decide +kernel
theorem dX5_addFactor_38 : decode cX5_addFactor 38 = .ok (.aload_n 0, 1) := by decide +kernel
theorem dX5_addFactor_39 : decode cX5_addFactor 39 = .ok (.getfield 13, 3) := by decide +kernel
theorem dX5_addFactor_42 : decode cX5_addFactor 42 = .ok (.iload_n 1, 1) := by decide +kernel
theorem dX5_addFactor_43 : decode cX5_addFactor 43 = .ok (.dup2, 1) := by decide +kernel
theorem dX5_addFactor_44 : decode cX5_addFactor 44 = .ok (.iaload, 1) := by decide +kernel
theorem dX5_addFactor_45 : decode cX5_addFactor 45 = .ok (.iconst 1, 1) := by decide +kernel
theorem dX5_addFactor_46 : decode cX5_addFactor 46 = .ok (.iadd, 1) := by decide +kernel
theorem dX5_addFactor_47 : decode cX5_addFactor 47 = .ok (.iastore, 1) := by decide +kernel
theorem dX5_addFactor_48 : decode cX5_addFactor 48 = .ok (.return_, 1) := by decide +kernel
theorem dX5_factor_0 : decode cX5_factor 0 = .ok (.aload_n 0, 1) := by decide +kernel
theorem dX5_factor_1 : decode cX5_factor 1 = .ok (.iload_n 1, 1) := by decide +kernel
theorem dX5_factor_2 : decode cX5_factor 2 = .ok (.invokevirtual 115, 3) := by decide +kernel
theorem dX5_factor_5 : decode cX5_factor 5 = .ok (.ifCond .eq 5, 3) := by decide +kernel
theorem dX5_factor_8 : decode cX5_factor 8 = .ok (.iconst (-1), 1) := by decide +kernel
theorem dX5_factor_9 : decode cX5_factor 9 = .ok (.ireturn, 1) := by decide +kernel
theorem dX5_factor_10 : decode cX5_factor 10 = .ok (.iload_n 2, 1) := by decide +kernel
theorem dX5_factor_11 : decode cX5_factor 11 = .ok (.invokestatic 119, 3) := by decide +kernel
theorem dX5_factor_14 : decode cX5_factor 14 = .ok (.ifCond .eq 19, 3) := by decide +kernel
theorem dX5_factor_17 : decode cX5_factor 17 = .ok (.iload_n 3, 1) := by decide +kernel
theorem dX5_factor_18 : decode cX5_factor 18 = .ok (.invokestatic 122, 3) := by decide +kernel
theorem dX5_factor_21 : decode cX5_factor 21 = .ok (.ifCond .eq 12, 3) := by decide +kernel
theorem dX5_factor_24 : decode cX5_factor 24 = .ok (.iload 4, 2) := by decide +kernel
theorem dX5_factor_26 : decode cX5_factor 26 = .ok (.i2l, 1) := by decide +kernel
theorem dX5_factor_27 : decode cX5_factor 27 = .ok (.invokestatic 125, 3) := by decide +kernel
theorem dX5_factor_30 : decode cX5_factor 30 = .ok (.ifCond .ne 6, 3) := by decide +kernel
theorem dX5_factor_33 : decode cX5_factor 33 = .ok (.bipush (-2), 2) := by decide +kernel
theorem dX5_factor_35 : decode cX5_factor 35 = .ok (.ireturn, 1) := by decide +kernel
theorem dX5_factor_36 : decode cX5_factor 36 = .ok (.aload_n 0, 1) := by decide +kernel
theorem dX5_factor_37 : decode cX5_factor 37 = .ok (.getfield 13, 3) := by decide +kernel
theorem dX5_factor_40 : decode cX5_factor 40 = .ok (.iload_n 1, 1) := by decide +kernel
theorem dX5_factor_41 : decode cX5_factor 41 = .ok (.iaload, 1) := by decide +kernel
theorem dX5_factor_42 : decode cX5_factor 42 = .ok (.bipush 12, 2) := by decide +kernel
theorem dX5_factor_44 : decode cX5_factor 44 = .ok (.if_icmp .ne 6, 3) := by decide +kernel
theorem dX5_factor_47 : decode cX5_factor 47 = .ok (.bipush (-4), 2) := by decide +kernel
theorem dX5_factor_49 : decode cX5_factor 49 = .ok (.ireturn, 1) := by decide +kernel
theorem dX5_factor_50 : decode cX5_factor 50 = .ok (.aload_n 0, 1) := by decide +kernel
theorem dX5_factor_51 : decode cX5_factor 51 = .ok (.iload_n 1, 1) := by decide +kernel
theorem dX5_factor_52 : decode cX5_factor 52 = .ok (.iload_n 2, 1) := by decide +kernel
theorem dX5_factor_53 : decode cX5_factor 53 = .ok (.iload_n 3, 1) := by decide +kernel
theorem dX5_factor_54 : decode cX5_factor 54 = .ok (.iload 4, 2) := by decide +kernel
theorem dX5_factor_56 : decode cX5_factor 56 = .ok (.invokevirtual 129, 3) := by decide +kernel
theorem dX5_factor_59 : decode cX5_factor 59 = .ok (.aload_n 0, 1) := by decide +kernel
theorem dX5_factor_60 : decode cX5_factor 60 = .ok (.getfield 13, 3) := by decide +kernel
theorem dX5_factor_63 : decode cX5_factor 63 = .ok (.iload_n 1, 1) := by decide +kernel
theorem dX5_factor_64 : decode cX5_factor 64 = .ok (.iaload, 1) := by decide +kernel
theorem dX5_factor_65 : decode cX5_factor 65 = .ok (.ireturn, 1) := by decide +kernel
theorem dX5_findCurve_0 : decode cX5_findCurve 0 = .ok (.aload_n 0, 1) := by decide +kernel
theorem dX5_findCurve_1 : decode cX5_findCurve 1 = .ok (.iconst 0, 1) := by decide +kernel
theorem dX5_findCurve_2 : decode cX5_findCurve 2 = .ok (.putfield 133, 3) := by decide +kernel
theorem dX5_findCurve_5 : decode cX5_findCurve 5 = .ok (.bipush 12, 2) := by decide +kernel
theorem dX5_findCurve_7 : decode cX5_findCurve 7 = .ok (.iload_n 1, 1) := by decide +kernel
theorem dX5_findCurve_8 : decode cX5_findCurve 8 = .ok (.imul, 1) := by decide +kernel
theorem dX5_findCurve_9 : decode cX5_findCurve 9 = .ok (.istore_n 3, 1) := by decide +kernel
theorem dX5_findCurve_10 : decode cX5_findCurve 10 = .ok (.iload_n 3, 1) := by decide +kernel
theorem dX5_findCurve_11 : decode cX5_findCurve 11 = .ok (.bipush 12, 2) := by decide +kernel
theorem dX5_findCurve_13 : decode cX5_findCurve 13 = .ok (.iload_n 1, 1) := by decide +kernel
theorem dX5_findCurve_14 : decode cX5_findCurve 14 = .ok (.imul, 1) := by decide +kernel
theorem dX5_findCurve_15 : decode cX5_findCurve 15 = .ok (.aload_n 0, 1) := by decide +kernel
theorem dX5_findCurve_16 : decode cX5_findCurve 16 = .ok (.getfield 13, 3) := by decide +kernel
theorem dX5_findCurve_19 : decode cX5_findCurve 19 = .ok (.iload_n 1, 1) := by decide +kernel
theorem dX5_findCurve_20 : decode cX5_findCurve 20 = .ok (.iaload, 1) := by decide +kernel
theorem dX5_findCurve_21 : decode cX5_findCurve 21 = .ok (.iadd, 1) := by decide +kernel
theorem dX5_findCurve_22 : decode cX5_findCurve 22 = .ok (.if_icmp .ge 24, 3) := by decide +kernel
theorem dX5_findCurve_25 : decode cX5_findCurve 25 = .ok (.aload_n 0, 1) := by decide +kernel
theorem dX5_findCurve_26 : decode cX5_findCurve 26 = .ok (.getfield 19, 3) := by decide +kernel
theorem dX5_findCurve_29 : decode cX5_findCurve 29 = .ok (.iload_n 3, 1) := by decide +kernel
theorem dX5_findCurve_30 : decode cX5_findCurve 30 = .ok (.iaload, 1) := by decide +kernel
theorem dX5_findCurve_31 : decode cX5_findCurve 31 = .ok (.iload_n 2, 1) := by decide +kernel
theorem dX5_findCurve_32 : decode cX5_findCurve 32 = .ok (.if_icmp .gt 8, 3) := by decide +kernel
theorem dX5_findCurve_35 : decode cX5_findCurve 35 = .ok (.aload_n 0, 1) := by decide +kernel
theorem dX5_findCurve_36 : decode cX5_findCurve 36 = .ok (.iload_n 3, 1) := by decide +kernel
theorem dX5_findCurve_37 : decode cX5_findCurve 37 = .ok (.invokevirtual 136, 3) := by decide +kernel
theorem dX5_findCurve_40 : decode cX5_findCurve 40 = .ok (.iinc 3 1, 3) := by decide +kernel
theorem dX5_findCurve_43 : decode cX5_findCurve 43 = .ok (.goto (-33), 3) := by decide +kernel
theorem dX5_findCurve_46 : decode cX5_findCurve 46 = .ok (.return_, 1) := by decide +kernel
theorem dX5_addPoint_0 : decode cX5_addPoint 0 = .ok (.iconst 0, 1) := by decide +kernel
theorem dX5_addPoint_1 : decode cX5_addPoint 1 = .ok (.istore_n 2, 1) := by decide +kernel
theorem dX5_addPoint_2 : decode cX5_addPoint 2 = .ok (.iload_n 2, 1) := by decide +kernel
theorem dX5_addPoint_3 : decode cX5_addPoint 3 = .ok (.aload_n 0, 1) := by decide +kernel
theorem dX5_addPoint_4 : decode cX5_addPoint 4 = .ok (.getfield 133, 3) := by decide +kernel
theorem dX5_addPoint_7 : decode cX5_addPoint 7 = .ok (.if_icmp .ge 24, 3) := by decide +kernel
theorem dX5_addPoint_10 : decode cX5_addPoint 10 = .ok (.aload_n 0, 1) := by decide +kernel
theorem dX5_addPoint_11 : decode cX5_addPoint 11 = .ok (.getfield 28, 3) := by decide +kernel
theorem dX5_addPoint_14 : decode cX5_addPoint 14 = .ok (.iload_n 2, 1) := by decide +kernel
theorem dX5_addPoint_15 : decode cX5_addPoint 15 = .ok (.iaload, 1) := by decide +kernel
theorem dX5_addPoint_16 : decode cX5_addPoint 16 = .ok (.aload_n 0, 1) := by decide +kernel
theorem dX5_addPoint_17 : decode cX5_addPoint 17 = .ok (.getfield 16, 3) := by decide +kernel
theorem dX5_addPoint_20 : decode cX5_addPoint 20 = .ok (.iload_n 1, 1) := by decide +kernel
theorem dX5_addPoint_21 : decode cX5_addPoint 21 = .ok (.iaload, 1) := by decide +kernel
theorem dX5_addPoint_22 : decode cX5_addPoint 22 = .ok (.if_icmp .ge 9, 3) := by decide +kernel
theorem dX5_addPoint_25 : decode cX5_addPoint 25 = .ok (.iinc 2 1, 3) := by decide +kernel
theorem dX5_addPoint_28 : decode cX5_addPoint 28 = .ok (.goto (-26), 3) := by decide +kernel
theorem dX5_addPoint_31 : decode cX5_addPoint 31 = .ok (.iload_n 2, 1) := by decide +kernel
theorem dX5_addPoint_32 : decode cX5_addPoint 32 = .ok (.aload_n 0, 1) := by decide +kernel
theorem dX5_addPoint_33 : decode cX5_addPoint 33 = .ok (.getfield 133, 3) := by decide +kernel
theorem dX5_addPoint_36 : decode cX5_addPoint 36 = .ok (.if_icmp .ge 22, 3) := by decide +kernel
theorem dX5_addPoint_39 : decode cX5_addPoint 39 = .ok (.aload_n 0, 1) := by decide +kernel
theorem dX5_addPoint_40 : decode cX5_addPoint 40 = .ok (.getfield 28, 3) := by decide +kernel
theorem dX5_addPoint_43 : decode cX5_addPoint 43 = .ok (.iload_n 2, 1) := by decide +kernel
theorem dX5_addPoint_44 : decode cX5_addPoint 44 = .ok (.iaload, 1) := by decide +kernel
theorem dX5_addPoint_45 : decode cX5_addPoint 45 = .ok (.aload_n 0, 1) := by decide +kernel
theorem dX5_addPoint_46 : decode cX5_addPoint 46 = .ok (.getfield 16, 3) := by decide +kernel
theorem dX5_addPoint_49 : decode cX5_addPoint 49 = .ok (.iload_n 1, 1) := by decide +kernel
theorem dX5_addPoint_50 : decode cX5_addPoint 50 = .ok (.iaload, 1) := by decide +kernel
theorem dX5_addPoint_51 : decode cX5_addPoint 51 = .ok (.if_icmp .ne 7, 3) := by decide +kernel
theorem dX5_addPoint_54 : decode cX5_addPoint 54 = .ok (.iconst 1, 1) := by decide +kernel
theorem dX5_addPoint_55 : decode cX5_addPoint 55 = .ok (.goto 4, 3) := by decide +kernel
theorem dX5_addPoint_58 : decode cX5_addPoint 58 = .ok (.iconst 0, 1) := by decide +kernel
theorem dX5_addPoint_59 : decode cX5_addPoint 59 = .ok (.istore_n 3, 1) := by decide +kernel
theorem dX5_addPoint_60 : decode cX5_addPoint 60 = .ok (.iload_n 3, 1) := by decide +kernel
theorem dX5_addPoint_61 : decode cX5_addPoint 61 = .ok (.ifCond .eq 19, 3) := by decide +kernel
theorem dX5_addPoint_64 : decode cX5_addPoint 64 = .ok (.aload_n 0, 1) := by decide +kernel
theorem dX5_addPoint_65 : decode cX5_addPoint 65 = .ok (.getfield 34, 3) := by decide +kernel
theorem dX5_addPoint_68 : decode cX5_addPoint 68 = .ok (.iload_n 2, 1) := by decide +kernel
theorem dX5_addPoint_69 : decode cX5_addPoint 69 = .ok (.iaload, 1) := by decide +kernel
theorem dX5_addPoint_70 : decode cX5_addPoint 70 = .ok (.aload_n 0, 1) := by decide +kernel
theorem dX5_addPoint_71 : decode cX5_addPoint 71 = .ok (.getfield 19, 3) := by decide +kernel
theorem dX5_addPoint_74 : decode cX5_addPoint 74 = .ok (.iload_n 1, 1) := by decide +kernel
theorem dX5_addPoint_75 : decode cX5_addPoint 75 = .ok (.iaload, 1) := by decide +kernel
theorem dX5_addPoint_76 : decode cX5_addPoint 76 = .ok (.if_icmp .le 4, 3) := by decide +kernel
theorem dX5_addPoint_79 : decode cX5_addPoint 79 = .ok (.return_, 1) := by decide +kernel
theorem dX5_addPoint_80 : decode cX5_addPoint 80 = .ok (.aload_n 0, 1) := by decide +kernel
theorem dX5_addPoint_81 : decode cX5_addPoint 81 = .ok (.getfield 133, 3) := by decide +kernel
theorem dX5_addPoint_84 : decode cX5_addPoint 84 = .ok (.istore 4, 2) := by decide +kernel
theorem dX5_addPoint_86 : decode cX5_addPoint 86 = .ok (.iload 4, 2) := by decide +kernel
theorem dX5_addPoint_88 : decode cX5_addPoint 88 = .ok (.iload_n 2, 1) := by decide +kernel
theorem dX5_addPoint_89 : decode cX5_addPoint 89 = .ok (.if_icmp .le 61, 3) := by decide +kernel
theorem dX5_addPoint_92 : decode cX5_addPoint 92 = .ok (.iload_n 3, 1) := by decide +kernel
theorem dX5_addPoint_93 : decode cX5_addPoint 93 = .ok (.ifCond .ne 57, 3) := by decide +kernel
theorem dX5_addPoint_96 : decode cX5_addPoint 96 = .ok (.aload_n 0, 1) := by decide +kernel
theorem dX5_addPoint_97 : decode cX5_addPoint 97 = .ok (.getfield 28, 3) := by decide +kernel
theorem dX5_addPoint_100 : decode cX5_addPoint 100 = .ok (.iload 4, 2) := by decide +kernel
theorem dX5_addPoint_102 : decode cX5_addPoint 102 = .ok (.aload_n 0, 1) := by decide +kernel
theorem dX5_addPoint_103 : decode cX5_addPoint 103 = .ok (.getfield 28, 3) := by decide +kernel
theorem dX5_addPoint_106 : decode cX5_addPoint 106 = .ok (.iload 4, 2) := by decide +kernel
theorem dX5_addPoint_108 : decode cX5_addPoint 108 = .ok (.iconst 1, 1) := by decide +kernel
theorem dX5_addPoint_109 : decode cX5_addPoint 109 = .ok (.isub, 1) := by decide +kernel
theorem dX5_addPoint_110 : decode cX5_addPoint 110 = .ok (.iaload, 1) := by decide +kernel
theorem dX5_addPoint_111 : decode cX5_addPoint 111 = .ok (.iastore, 1) := by decide +kernel
theorem dX5_addPoint_112 : decode cX5_addPoint 112 = .ok (.aload_n 0, 1) := by decide +kernel
theorem dX5_addPoint_113 : decode cX5_addPoint 113 = .ok (.getfield 31, 3) := by decide +kernel
theorem dX5_addPoint_116 : decode cX5_addPoint 116 = .ok (.iload 4, 2) := by decide +kernel
theorem dX5_addPoint_118 : decode cX5_addPoint 118 = .ok (.aload_n 0, 1) := by decide +kernel
theorem dX5_addPoint_119 : decode cX5_addPoint 119 = .ok (.getfield 31, 3) := by decide +kernel
theorem dX5_addPoint_122 : decode cX5_addPoint 122 = .ok (.iload 4, 2) := by decide +kernel
theorem dX5_addPoint_124 : decode cX5_addPoint 124 = .ok (.iconst 1, 1) := by decide +kernel
theorem dX5_addPoint_125 : decode cX5_addPoint 125 = .ok (.isub, 1) := by decide +kernel
theorem dX5_addPoint_126 : decode cX5_addPoint 126 = .ok (.iaload, 1) := by decide +kernel
theorem dX5_addPoint_127 : decode cX5_addPoint 127 = .ok (.iastore, 1) := by decide +kernel
theorem dX5_addPoint_128 : decode cX5_addPoint 128 = .ok (.aload_n 0, 1) := by decide +kernel
theorem dX5_addPoint_129 : decode cX5_addPoint 129 = .ok (.getfield 34, 3) := by decide +kernel
theorem dX5_addPoint_132 : decode cX5_addPoint 132 = .ok (.iload 4, 2) := by decide +kernel
theorem dX5_addPoint_134 : decode cX5_addPoint 134 = .ok (.aload_n 0, 1) := by decide +kernel
theorem dX5_addPoint_135 : decode cX5_addPoint 135 = .ok (.getfield 34, 3) := by decide +kernel
theorem dX5_addPoint_138 : decode cX5_addPoint 138 = .ok (.iload 4, 2) := by decide +kernel
theorem dX5_addPoint_140 : decode cX5_addPoint 140 = .ok (.iconst 1, 1) := by decide +kernel
theorem dX5_addPoint_141 : decode cX5_addPoint 141 = .ok (.isub, 1) := by decide +kernel
theorem dX5_addPoint_142 : decode cX5_addPoint 142 = .ok (.iaload, 1) := by decide +kernel
theorem dX5_addPoint_143 : decode cX5_addPoint 143 = .ok (.iastore, 1) := by decide +kernel
theorem dX5_addPoint_144 : decode cX5_addPoint 144 = .ok (.iinc 4 (-1), 3) := by decide +kernel
theorem dX5_addPoint_147 : decode cX5_addPoint 147 = .ok (.goto (-61), 3) := by decide +kernel
theorem dX5_addPoint_150 : decode cX5_addPoint 150 = .ok (.aload_n 0, 1) := by decide +kernel
theorem dX5_addPoint_151 : decode cX5_addPoint 151 = .ok (.getfield 28, 3) := by decide +kernel
theorem dX5_addPoint_154 : decode cX5_addPoint 154 = .ok (.iload_n 2, 1) := by decide +kernel
theorem dX5_addPoint_155 : decode cX5_addPoint 155 = .ok (.aload_n 0, 1) := by decide +kernel
theorem dX5_addPoint_156 : decode cX5_addPoint 156 = .ok (.getfield 16, 3) := by decide +kernel
theorem dX5_addPoint_159 : decode cX5_addPoint 159 = .ok (.iload_n 1, 1) := by decide +kernel
theorem dX5_addPoint_160 : decode cX5_addPoint 160 = .ok (.iaload, 1) := by decide +kernel
theorem dX5_addPoint_161 : decode cX5_addPoint 161 = .ok (.iastore, 1) := by decide +kernel
theorem dX5_addPoint_162 : decode cX5_addPoint 162 = .ok (.aload_n 0, 1) := by decide +kernel
theorem dX5_addPoint_163 : decode cX5_addPoint 163 = .ok (.getfield 31, 3) := by decide +kernel
theorem dX5_addPoint_166 : decode cX5_addPoint 166 = .ok (.iload_n 2, 1) := by decide +kernel
theorem dX5_addPoint_167 : decode cX5_addPoint 167 = .ok (.aload_n 0, 1) := by decide +kernel
theorem dX5_addPoint_168 : decode cX5_addPoint 168 = .ok (.getfield 22, 3) := by decide +kernel
theorem dX5_addPoint_171 : decode cX5_addPoint 171 = .ok (.iload_n 1, 1) := by decide +kernel
theorem dX5_addPoint_172 : decode cX5_addPoint 172 = .ok (.iaload, 1) := by decide +kernel
theorem dX5_addPoint_173 : decode cX5_addPoint 173 = .ok (.iastore, 1) := by decide +kernel
theorem dX5_addPoint_174 : decode cX5_addPoint 174 = .ok (.aload_n 0, 1) := by decide +kernel
theorem dX5_addPoint_175 : decode cX5_addPoint 175 = .ok (.getfield 34, 3) := by decide +kernel
theorem dX5_addPoint_178 : decode cX5_addPoint 178 = .ok (.iload_n 2, 1) := by decide +kernel
theorem dX5_addPoint_179 : decode cX5_addPoint 179 = .ok (.aload_n 0, 1) := by decide +kernel
theorem dX5_addPoint_180 : decode cX5_addPoint 180 = .ok (.getfield 19, 3) := by decide +kernel
theorem dX5_addPoint_183 : decode cX5_addPoint 183 = .ok (.iload_n 1, 1) := by decide +kernel
theorem dX5_addPoint_184 : decode cX5_addPoint 184 = .ok (.iaload, 1) := by decide +kernel
theorem dX5_addPoint_185 : decode cX5_addPoint 185 = .ok (.iastore, 1) := by decide +kernel
theorem dX5_addPoint_186 : decode cX5_addPoint 186 = .ok (.aload_n 0, 1) := by decide +kernel
theorem dX5_addPoint_187 : decode cX5_addPoint 187 = .ok (.dup, 1) := by decide +kernel
theorem dX5_addPoint_188 : decode cX5_addPoint 188 = .ok (.getfield 133, 3) := by decide +kernel
theorem dX5_addPoint_191 : decode cX5_addPoint 191 = .ok (.iload_n 3, 1) := by decide +kernel
theorem dX5_addPoint_192 : decode cX5_addPoint 192 = .ok (.ifCond .eq 7, 3) := by decide +kernel
theorem dX5_addPoint_195 : decode cX5_addPoint 195 = .ok (.iconst 0, 1) := by decide +kernel
theorem dX5_addPoint_196 : decode cX5_addPoint 196 = .ok (.goto 4, 3) := by decide +kernel
theorem dX5_addPoint_199 : decode cX5_addPoint 199 = .ok (.iconst 1, 1) := by decide +kernel
theorem dX5_addPoint_200 : decode cX5_addPoint 200 = .ok (.iadd, 1) := by decide +kernel
theorem dX5_addPoint_201 : decode cX5_addPoint 201 = .ok (.putfield 133, 3) := by decide +kernel
theorem dX5_addPoint_204 : decode cX5_addPoint 204 = .ok (.return_, 1) := by decide +kernel
theorem dX5_factorAt_0 : decode cX5_factorAt 0 = .ok (.aload_n 0, 1) := by decide +kernel
theorem dX5_factorAt_1 : decode cX5_factorAt 1 = .ok (.iload_n 1, 1) := by decide +kernel
theorem dX5_factorAt_2 : decode cX5_factorAt 2 = .ok (.iload_n 3, 1) := by decide +kernel
theorem dX5_factorAt_3 : decode cX5_factorAt 3 = .ok (.invokevirtual 140, 3) := by decide +kernel
theorem dX5_factorAt_6 : decode cX5_factorAt 6 = .ok (.aload_n 0, 1) := by decide +kernel
theorem dX5_factorAt_7 : decode cX5_factorAt 7 = .ok (.getfield 133, 3) := by decide +kernel
theorem dX5_factorAt_10 : decode cX5_factorAt 10 = .ok (.ifCond .ne 6, 3) := by decide +kernel
theorem dX5_factorAt_13 : decode cX5_factorAt 13 = .ok (.ldc 144, 2) := by decide +kernel
theorem dX5_factorAt_15 : decode cX5_factorAt 15 = .ok (.ireturn, 1) := by decide +kernel
theorem dX5_factorAt_16 : decode cX5_factorAt 16 = .ok (.iconst 0, 1) := by decide +kernel
theorem dX5_factorAt_17 : decode cX5_factorAt 17 = .ok (.istore 4, 2) := by decide +kernel
theorem dX5_factorAt_19 : decode cX5_factorAt 19 = .ok (.iload 4, 2) := by decide +kernel
theorem dX5_factorAt_21 : decode cX5_factorAt 21 = .ok (.aload_n 0, 1) := by decide +kernel
theorem dX5_factorAt_22 : decode cX5_factorAt 22 = .ok (.getfield 133, 3) := by decide +kernel
theorem dX5_factorAt_25 : decode cX5_factorAt 25 = .ok (.if_icmp .ge 20, 3) := by decide +kernel
theorem dX5_factorAt_28 : decode cX5_factorAt 28 = .ok (.aload_n 0, 1) := by decide +kernel
theorem dX5_factorAt_29 : decode cX5_factorAt 29 = .ok (.getfield 28, 3) := by decide +kernel
theorem dX5_factorAt_32 : decode cX5_factorAt 32 = .ok (.iload 4, 2) := by decide +kernel
theorem dX5_factorAt_34 : decode cX5_factorAt 34 = .ok (.iaload, 1) := by decide +kernel
theorem dX5_factorAt_35 : decode cX5_factorAt 35 = .ok (.iload_n 2, 1) := by decide +kernel
theorem dX5_factorAt_36 : decode cX5_factorAt 36 = .ok (.if_icmp .ge 9, 3) := by decide +kernel
theorem dX5_factorAt_39 : decode cX5_factorAt 39 = .ok (.iinc 4 1, 3) := by decide +kernel
theorem dX5_factorAt_42 : decode cX5_factorAt 42 = .ok (.goto (-23), 3) := by decide +kernel
theorem dX5_factorAt_45 : decode cX5_factorAt 45 = .ok (.iload 4, 2) := by decide +kernel
theorem dX5_factorAt_47 : decode cX5_factorAt 47 = .ok (.aload_n 0, 1) := by decide +kernel
theorem dX5_factorAt_48 : decode cX5_factorAt 48 = .ok (.getfield 133, 3) := by decide +kernel
theorem dX5_factorAt_51 : decode cX5_factorAt 51 = .ok (.if_icmp .ne 15, 3) := by decide +kernel
theorem dX5_factorAt_54 : decode cX5_factorAt 54 = .ok (.aload_n 0, 1) := by decide +kernel
theorem dX5_factorAt_55 : decode cX5_factorAt 55 = .ok (.getfield 31, 3) := by decide +kernel
theorem dX5_factorAt_58 : decode cX5_factorAt 58 = .ok (.aload_n 0, 1) := by decide +kernel
theorem dX5_factorAt_59 : decode cX5_factorAt 59 = .ok (.getfield 133, 3) := by decide +kernel
theorem dX5_factorAt_62 : decode cX5_factorAt 62 = .ok (.iconst 1, 1) := by decide +kernel
theorem dX5_factorAt_63 : decode cX5_factorAt 63 = .ok (.isub, 1) := by decide +kernel
theorem dX5_factorAt_64 : decode cX5_factorAt 64 = .ok (.iaload, 1) := by decide +kernel
theorem dX5_factorAt_65 : decode cX5_factorAt 65 = .ok (.ireturn, 1) := by decide +kernel
theorem dX5_factorAt_66 : decode cX5_factorAt 66 = .ok (.iload 4, 2) := by decide +kernel
theorem dX5_factorAt_68 : decode cX5_factorAt 68 = .ok (.ifCond .eq 14, 3) := by decide +kernel
theorem dX5_factorAt_71 : decode cX5_factorAt 71 = .ok (.aload_n 0, 1) := by decide +kernel
theorem dX5_factorAt_72 : decode cX5_factorAt 72 = .ok (.getfield 28, 3) := by decide +kernel
theorem dX5_factorAt_75 : decode cX5_factorAt 75 = .ok (.iload 4, 2) := by decide +kernel
theorem dX5_factorAt_77 : decode cX5_factorAt 77 = .ok (.iaload, 1) := by decide +kernel
theorem dX5_factorAt_78 : decode cX5_factorAt 78 = .ok (.iload_n 2, 1) := by decide +kernel
theorem dX5_factorAt_79 : decode cX5_factorAt 79 = .ok (.if_icmp .ne 11, 3) := by decide +kernel
theorem dX5_factorAt_82 : decode cX5_factorAt 82 = .ok (.aload_n 0, 1) := by decide +kernel
theorem dX5_factorAt_83 : decode cX5_factorAt 83 = .ok (.getfield 31, 3) := by decide +kernel
theorem dX5_factorAt_86 : decode cX5_factorAt 86 = .ok (.iload 4, 2) := by decide +kernel
theorem dX5_factorAt_88 : decode cX5_factorAt 88 = .ok (.iaload, 1) := by decide +kernel
theorem dX5_factorAt_89 : decode cX5_factorAt 89 = .ok (.ireturn, 1) := by decide +kernel
theorem dX5_factorAt_90 : decode cX5_factorAt 90 = .ok (.aload_n 0, 1) := by decide +kernel
theorem dX5_factorAt_91 : decode cX5_factorAt 91 = .ok (.getfield 28, 3) := by decide +kernel
theorem dX5_factorAt_94 : decode cX5_factorAt 94 = .ok (.iload 4, 2) := by decide +kernel
theorem dX5_factorAt_96 : decode cX5_factorAt 96 = .ok (.iconst 1, 1) := by decide +kernel
theorem dX5_factorAt_97 : decode cX5_factorAt 97 = .ok (.isub, 1) := by decide +kernel
theorem dX5_factorAt_98 : decode cX5_factorAt 98 = .ok (.iaload, 1) := by decide +kernel
theorem dX5_factorAt_99 : decode cX5_factorAt 99 = .ok (.i2l, 1) := by decide +kernel
theorem dX5_factorAt_100 : decode cX5_factorAt 100 = .ok (.lstore 5, 2) := by decide +kernel
theorem dX5_factorAt_102 : decode cX5_factorAt 102 = .ok (.aload_n 0, 1) := by decide +kernel
theorem dX5_factorAt_103 : decode cX5_factorAt 103 = .ok (.getfield 31, 3) := by decide +kernel
theorem dX5_factorAt_106 : decode cX5_factorAt 106 = .ok (.iload 4, 2) := by decide +kernel
theorem dX5_factorAt_108 : decode cX5_factorAt 108 = .ok (.iconst 1, 1) := by decide +kernel
theorem dX5_factorAt_109 : decode cX5_factorAt 109 = .ok (.isub, 1) := by decide +kernel
theorem dX5_factorAt_110 : decode cX5_factorAt 110 = .ok (.iaload, 1) := by decide +kernel
theorem dX5_factorAt_111 : decode cX5_factorAt 111 = .ok (.i2l, 1) := by decide +kernel
theorem dX5_factorAt_112 : decode cX5_factorAt 112 = .ok (.lstore 7, 2) := by decide +kernel
theorem dX5_factorAt_114 : decode cX5_factorAt 114 = .ok (.lload 7, 2) := by decide +kernel
theorem dX5_factorAt_116 : decode cX5_factorAt 116 = .ok (.aload_n 0, 1) := by decide +kernel
theorem dX5_factorAt_117 : decode cX5_factorAt 117 = .ok (.getfield 31, 3) := by decide +kernel
theorem dX5_factorAt_120 : decode cX5_factorAt 120 = .ok (.iload 4, 2) := by decide +kernel
theorem dX5_factorAt_122 : decode cX5_factorAt 122 = .ok (.iaload, 1) := by decide +kernel
theorem dX5_factorAt_123 : decode cX5_factorAt 123 = .ok (.i2l, 1) := by decide +kernel
theorem dX5_factorAt_124 : decode cX5_factorAt 124 = .ok (.lload 7, 2) := by decide +kernel
theorem dX5_factorAt_126 : decode cX5_factorAt 126 = .ok (.lsub, 1) := by decide +kernel
theorem dX5_factorAt_127 : decode cX5_factorAt 127 = .ok (.iload_n 2, 1) := by decide +kernel
theorem dX5_factorAt_128 : decode cX5_factorAt 128 = .ok (.i2l, 1) := by decide +kernel
theorem dX5_factorAt_129 : decode cX5_factorAt 129 = .ok (.lload 5, 2) := by decide +kernel
theorem dX5_factorAt_131 : decode cX5_factorAt 131 = .ok (.lsub, 1) := by decide +kernel
theorem dX5_factorAt_132 : decode cX5_factorAt 132 = .ok (.lmul, 1) := by decide +kernel
theorem dX5_factorAt_133 : decode cX5_factorAt 133 = .ok (.aload_n 0, 1) := by decide +kernel
theorem dX5_factorAt_134 : decode cX5_factorAt 134 = .ok (.getfield 28, 3) := by decide +kernel
theorem dX5_factorAt_137 : decode cX5_factorAt 137 = .ok (.iload 4, 2) := by decide +kernel
theorem dX5_factorAt_139 : decode cX5_factorAt 139 = .ok (.iaload, 1) := by decide +kernel
theorem dX5_factorAt_140 : decode cX5_factorAt 140 = .ok (.i2l, 1) := by decide +kernel
theorem dX5_factorAt_141 : decode cX5_factorAt 141 = .ok (.lload 5, 2) := by decide +kernel
theorem dX5_factorAt_143 : decode cX5_factorAt 143 = .ok (.lsub, 1) := by decide +kernel
theorem dX5_factorAt_144 : decode cX5_factorAt 144 = .ok (.ldiv, 1) := by decide +kernel
theorem dX5_factorAt_145 : decode cX5_factorAt 145 = .ok (.ladd, 1) := by decide +kernel
theorem dX5_factorAt_146 : decode cX5_factorAt 146 = .ok (.l2i, 1) := by decide +kernel
theorem dX5_factorAt_147 : decode cX5_factorAt 147 = .ok (.ireturn, 1) := by decide +kernel
theorem dX5_at_0 : decode cX5_at 0 = .ok (.aload_n 0, 1) := by decide +kernel
theorem dX5_at_1 : decode cX5_at 1 = .ok (.iload_n 1, 1) := by decide +kernel
theorem dX5_at_2 : decode cX5_at 2 = .ok (.invokevirtual 115, 3) := by decide +kernel
theorem dX5_at_5 : decode cX5_at 5 = .ok (.ifCond .eq 5, 3) := by decide +kernel
theorem dX5_at_8 : decode cX5_at 8 = .ok (.iconst (-1), 1) := by decide +kernel
theorem dX5_at_9 : decode cX5_at 9 = .ok (.ireturn, 1) := by decide +kernel
theorem dX5_at_10 : decode cX5_at 10 = .ok (.iload_n 2, 1) := by decide +kernel
theorem dX5_at_11 : decode cX5_at 11 = .ok (.invokestatic 119, 3) := by decide +kernel
theorem dX5_at_14 : decode cX5_at 14 = .ok (.ifCond .eq 20, 3) := by decide +kernel
theorem dX5_at_17 : decode cX5_at 17 = .ok (.iload_n 3, 1) := by decide +kernel
theorem dX5_at_18 : decode cX5_at 18 = .ok (.invokestatic 122, 3) := by decide +kernel
theorem dX5_at_21 : decode cX5_at 21 = .ok (.ifCond .eq 13, 3) := by decide +kernel
theorem dX5_at_24 : decode cX5_at 24 = .ok (.aload_n 0, 1) := by decide +kernel
theorem dX5_at_25 : decode cX5_at 25 = .ok (.iload_n 1, 1) := by decide +kernel
theorem dX5_at_26 : decode cX5_at 26 = .ok (.iload_n 2, 1) := by decide +kernel
theorem dX5_at_27 : decode cX5_at 27 = .ok (.iload_n 3, 1) := by decide +kernel
theorem dX5_at_28 : decode cX5_at 28 = .ok (.invokevirtual 145, 3) := by decide +kernel
theorem dX5_at_31 : decode cX5_at 31 = .ok (.goto 5, 3) := by decide +kernel
theorem dX5_at_34 : decode cX5_at 34 = .ok (.bipush (-2), 2) := by decide +kernel
theorem dX5_at_36 : decode cX5_at 36 = .ok (.ireturn, 1) := by decide +kernel
theorem dX5_points_0 : decode cX5_points 0 = .ok (.aload_n 0, 1) := by decide +kernel
theorem dX5_points_1 : decode cX5_points 1 = .ok (.iload_n 1, 1) := by decide +kernel
theorem dX5_points_2 : decode cX5_points 2 = .ok (.invokevirtual 115, 3) := by decide +kernel
theorem dX5_points_5 : decode cX5_points 5 = .ok (.ifCond .eq 5, 3) := by decide +kernel
theorem dX5_points_8 : decode cX5_points 8 = .ok (.iconst (-1), 1) := by decide +kernel
theorem dX5_points_9 : decode cX5_points 9 = .ok (.ireturn, 1) := by decide +kernel
theorem dX5_points_10 : decode cX5_points 10 = .ok (.iload_n 2, 1) := by decide +kernel
theorem dX5_points_11 : decode cX5_points 11 = .ok (.invokestatic 122, 3) := by decide +kernel
theorem dX5_points_14 : decode cX5_points 14 = .ok (.ifCond .ne 6, 3) := by decide +kernel
theorem dX5_points_17 : decode cX5_points 17 = .ok (.bipush (-2), 2) := by decide +kernel
theorem dX5_points_19 : decode cX5_points 19 = .ok (.ireturn, 1) := by decide +kernel
theorem dX5_points_20 : decode cX5_points 20 = .ok (.aload_n 0, 1) := by decide +kernel
theorem dX5_points_21 : decode cX5_points 21 = .ok (.iload_n 1, 1) := by decide +kernel
theorem dX5_points_22 : decode cX5_points 22 = .ok (.iload_n 2, 1) := by decide +kernel
theorem dX5_points_23 : decode cX5_points 23 = .ok (.invokevirtual 140, 3) := by decide +kernel
theorem dX5_points_26 : decode cX5_points 26 = .ok (.aload_n 0, 1) := by decide +kernel
theorem dX5_points_27 : decode cX5_points 27 = .ok (.getfield 133, 3) := by decide +kernel
theorem dX5_points_30 : decode cX5_points 30 = .ok (.ireturn, 1) := by decide +kernel
theorem dX5_point_0 : decode cX5_point 0 = .ok (.aload_n 0, 1) := by decide +kernel
theorem dX5_point_1 : decode cX5_point 1 = .ok (.iload_n 1, 1) := by decide +kernel
theorem dX5_point_2 : decode cX5_point 2 = .ok (.invokevirtual 115, 3) := by decide +kernel
theorem dX5_point_5 : decode cX5_point 5 = .ok (.ifCond .eq 5, 3) := by decide +kernel
theorem dX5_point_8 : decode cX5_point 8 = .ok (.iconst (-1), 1) := by decide +kernel
theorem dX5_point_9 : decode cX5_point 9 = .ok (.ireturn, 1) := by decide +kernel
theorem dX5_point_10 : decode cX5_point 10 = .ok (.iload_n 2, 1) := by decide +kernel
theorem dX5_point_11 : decode cX5_point 11 = .ok (.invokestatic 122, 3) := by decide +kernel
theorem dX5_point_14 : decode cX5_point 14 = .ok (.ifCond .ne 6, 3) := by decide +kernel
theorem dX5_point_17 : decode cX5_point 17 = .ok (.bipush (-2), 2) := by decide +kernel
theorem dX5_point_19 : decode cX5_point 19 = .ok (.ireturn, 1) := by decide +kernel
theorem dX5_point_20 : decode cX5_point 20 = .ok (.aload_n 0, 1) := by decide +kernel
theorem dX5_point_21 : decode cX5_point 21 = .ok (.iload_n 1, 1) := by decide +kernel
theorem dX5_point_22 : decode cX5_point 22 = .ok (.iload_n 2, 1) := by decide +kernel
theorem dX5_point_23 : decode cX5_point 23 = .ok (.invokevirtual 140, 3) := by decide +kernel
theorem dX5_point_26 : decode cX5_point 26 = .ok (.iload_n 3, 1) := by decide +kernel
theorem dX5_point_27 : decode cX5_point 27 = .ok (.i2l, 1) := by decide +kernel
theorem dX5_point_28 : decode cX5_point 28 = .ok (.lconst 0, 1) := by decide +kernel
theorem dX5_point_29 : decode cX5_point 29 = .ok (.aload_n 0, 1) := by decide +kernel
theorem dX5_point_30 : decode cX5_point 30 = .ok (.getfield 133, 3) := by decide +kernel
theorem dX5_point_33 : decode cX5_point 33 = .ok (.i2l, 1) := by decide +kernel
theorem dX5_point_34 : decode cX5_point 34 = .ok (.lconst 1, 1) := by decide +kernel
theorem dX5_point_35 : decode cX5_point 35 = .ok (.lsub, 1) := by decide +kernel
theorem dX5_point_36 : decode cX5_point 36 = .ok (.invokestatic 101, 3) := by decide +kernel
theorem dX5_point_39 : decode cX5_point 39 = .ok (.ifCond .ne 5, 3) := by decide +kernel
theorem dX5_point_42 : decode cX5_point 42 = .ok (.iconst (-1), 1) := by decide +kernel
theorem dX5_point_43 : decode cX5_point 43 = .ok (.ireturn, 1) := by decide +kernel
theorem dX5_point_44 : decode cX5_point 44 = .ok (.iload 4, 2) := by decide +kernel
theorem dX5_point_46 : decode cX5_point 46 = .ok (.ifCond .ne 12, 3) := by decide +kernel
theorem dX5_point_49 : decode cX5_point 49 = .ok (.aload_n 0, 1) := by decide +kernel
theorem dX5_point_50 : decode cX5_point 50 = .ok (.getfield 28, 3) := by decide +kernel
theorem dX5_point_53 : decode cX5_point 53 = .ok (.iload_n 3, 1) := by decide +kernel
theorem dX5_point_54 : decode cX5_point 54 = .ok (.iaload, 1) := by decide +kernel
theorem dX5_point_55 : decode cX5_point 55 = .ok (.goto 20, 3) := by decide +kernel
theorem dX5_point_58 : decode cX5_point 58 = .ok (.iload 4, 2) := by decide +kernel
theorem dX5_point_60 : decode cX5_point 60 = .ok (.iconst 1, 1) := by decide +kernel
theorem dX5_point_61 : decode cX5_point 61 = .ok (.if_icmp .ne 12, 3) := by decide +kernel
theorem dX5_point_64 : decode cX5_point 64 = .ok (.aload_n 0, 1) := by decide +kernel
theorem dX5_point_65 : decode cX5_point 65 = .ok (.getfield 31, 3) := by decide +kernel
theorem dX5_point_68 : decode cX5_point 68 = .ok (.iload_n 3, 1) := by decide +kernel
theorem dX5_point_69 : decode cX5_point 69 = .ok (.iaload, 1) := by decide +kernel
theorem dX5_point_70 : decode cX5_point 70 = .ok (.goto 5, 3) := by decide +kernel
theorem dX5_point_73 : decode cX5_point 73 = .ok (.bipush (-2), 2) := by decide +kernel
theorem dX5_point_75 : decode cX5_point 75 = .ok (.ireturn, 1) := by decide +kernel
theorem dX5_proof_0 : decode cX5_proof 0 = .ok (.aload_n 0, 1) := by decide +kernel
theorem dX5_proof_1 : decode cX5_proof 1 = .ok (.iload_n 1, 1) := by decide +kernel
theorem dX5_proof_2 : decode cX5_proof 2 = .ok (.invokevirtual 115, 3) := by decide +kernel
theorem dX5_proof_5 : decode cX5_proof 5 = .ok (.ifCond .eq 5, 3) := by decide +kernel
theorem dX5_proof_8 : decode cX5_proof 8 = .ok (.iconst (-1), 1) := by decide +kernel
theorem dX5_proof_9 : decode cX5_proof 9 = .ok (.ireturn, 1) := by decide +kernel
theorem dX5_proof_10 : decode cX5_proof 10 = .ok (.iload_n 2, 1) := by decide +kernel
theorem dX5_proof_11 : decode cX5_proof 11 = .ok (.invokestatic 119, 3) := by decide +kernel
theorem dX5_proof_14 : decode cX5_proof 14 = .ok (.ifCond .eq 17, 3) := by decide +kernel
theorem dX5_proof_17 : decode cX5_proof 17 = .ok (.iload_n 3, 1) := by decide +kernel
theorem dX5_proof_18 : decode cX5_proof 18 = .ok (.i2l, 1) := by decide +kernel
theorem dX5_proof_19 : decode cX5_proof 19 = .ok (.ldc2_w 149, 3) := by decide +kernel
theorem dX5_proof_22 : decode cX5_proof 22 = .ok (.ldc2_w 151, 3) := by decide +kernel
theorem dX5_proof_25 : decode cX5_proof 25 = .ok (.invokestatic 101, 3) := by decide +kernel
theorem dX5_proof_28 : decode cX5_proof 28 = .ok (.ifCond .ne 6, 3) := by decide +kernel
theorem dX5_proof_31 : decode cX5_proof 31 = .ok (.bipush (-2), 2) := by decide +kernel
theorem dX5_proof_33 : decode cX5_proof 33 = .ok (.ireturn, 1) := by decide +kernel
theorem dX5_proof_34 : decode cX5_proof 34 = .ok (.aload_n 0, 1) := by decide +kernel
theorem dX5_proof_35 : decode cX5_proof 35 = .ok (.iload_n 1, 1) := by decide +kernel
theorem dX5_proof_36 : decode cX5_proof 36 = .ok (.putfield 84, 3) := by decide +kernel
theorem dX5_proof_39 : decode cX5_proof 39 = .ok (.aload_n 0, 1) := by decide +kernel
theorem dX5_proof_40 : decode cX5_proof 40 = .ok (.iload_n 2, 1) := by decide +kernel
theorem dX5_proof_41 : decode cX5_proof 41 = .ok (.putfield 153, 3) := by decide +kernel
theorem dX5_proof_44 : decode cX5_proof 44 = .ok (.aload_n 0, 1) := by decide +kernel
theorem dX5_proof_45 : decode cX5_proof 45 = .ok (.iload_n 3, 1) := by decide +kernel
theorem dX5_proof_46 : decode cX5_proof 46 = .ok (.putfield 156, 3) := by decide +kernel
theorem dX5_proof_49 : decode cX5_proof 49 = .ok (.aload_n 0, 1) := by decide +kernel
theorem dX5_proof_50 : decode cX5_proof 50 = .ok (.iconst 0, 1) := by decide +kernel
theorem dX5_proof_51 : decode cX5_proof 51 = .ok (.putfield 159, 3) := by decide +kernel
theorem dX5_proof_54 : decode cX5_proof 54 = .ok (.iconst 1, 1) := by decide +kernel
theorem dX5_proof_55 : decode cX5_proof 55 = .ok (.ireturn, 1) := by decide +kernel
theorem dX5_run_0 : decode cX5_run 0 = .ok (.iload_n 1, 1) := by decide +kernel
theorem dX5_run_1 : decode cX5_run 1 = .ok (.i2l, 1) := by decide +kernel
theorem dX5_run_2 : decode cX5_run 2 = .ok (.lconst 1, 1) := by decide +kernel
theorem dX5_run_3 : decode cX5_run 3 = .ok (.ldc2_w 113, 3) := by decide +kernel
theorem dX5_run_6 : decode cX5_run 6 = .ok (.invokestatic 101, 3) := by decide +kernel
theorem dX5_run_9 : decode cX5_run 9 = .ok (.ifCond .eq 43, 3) := by decide +kernel
theorem dX5_run_12 : decode cX5_run 12 = .ok (.iload_n 2, 1) := by decide +kernel
theorem dX5_run_13 : decode cX5_run 13 = .ok (.i2l, 1) := by decide +kernel
theorem dX5_run_14 : decode cX5_run 14 = .ok (.lconst 1, 1) := by decide +kernel
theorem dX5_run_15 : decode cX5_run 15 = .ok (.ldc2_w 151, 3) := by decide +kernel
theorem dX5_run_18 : decode cX5_run 18 = .ok (.invokestatic 101, 3) := by decide +kernel
theorem dX5_run_21 : decode cX5_run 21 = .ok (.ifCond .eq 31, 3) := by decide +kernel
theorem dX5_run_24 : decode cX5_run 24 = .ok (.iload_n 3, 1) := by decide +kernel
theorem dX5_run_25 : decode cX5_run 25 = .ok (.i2l, 1) := by decide +kernel
theorem dX5_run_26 : decode cX5_run 26 = .ok (.lconst 1, 1) := by decide +kernel
theorem dX5_run_27 : decode cX5_run 27 = .ok (.ldc2_w 151, 3) := by decide +kernel
theorem dX5_run_30 : decode cX5_run 30 = .ok (.invokestatic 101, 3) := by decide +kernel
theorem dX5_run_33 : decode cX5_run 33 = .ok (.ifCond .eq 19, 3) := by decide +kernel
theorem dX5_run_36 : decode cX5_run 36 = .ok (.aload_n 0, 1) := by decide +kernel
theorem dX5_run_37 : decode cX5_run 37 = .ok (.getfield 84, 3) := by decide +kernel
theorem dX5_run_40 : decode cX5_run 40 = .ok (.ifCond .lt 12, 3) := by decide +kernel
theorem dX5_run_43 : decode cX5_run 43 = .ok (.aload_n 0, 1) := by decide +kernel
theorem dX5_run_44 : decode cX5_run 44 = .ok (.getfield 159, 3) := by decide +kernel
theorem dX5_run_47 : decode cX5_run 47 = .ok (.bipush 12, 2) := by decide +kernel
theorem dX5_run_49 : decode cX5_run 49 = .ok (.if_icmp .ne 7, 3) := by decide +kernel
theorem dX5_run_52 : decode cX5_run 52 = .ok (.invokestatic 92, 3) := by decide +kernel
theorem dX5_run_55 : decode cX5_run 55 = .ok (.lreturn, 1) := by decide +kernel
theorem dX5_run_56 : decode cX5_run 56 = .ok (.aload_n 0, 1) := by decide +kernel
theorem dX5_run_57 : decode cX5_run 57 = .ok (.getfield 37, 3) := by decide +kernel
theorem dX5_run_60 : decode cX5_run 60 = .ok (.aload_n 0, 1) := by decide +kernel
theorem dX5_run_61 : decode cX5_run 61 = .ok (.getfield 159, 3) := by decide +kernel
theorem dX5_run_64 : decode cX5_run 64 = .ok (.iload_n 1, 1) := by decide +kernel
theorem dX5_run_65 : decode cX5_run 65 = .ok (.i2l, 1) := by decide +kernel
theorem dX5_run_66 : decode cX5_run 66 = .ok (.ldc2_w 149, 3) := by decide +kernel
theorem dX5_run_69 : decode cX5_run 69 = .ok (.lmul, 1) := by decide +kernel
theorem dX5_run_70 : decode cX5_run 70 = .ok (.iload_n 3, 1) := by decide +kernel
theorem dX5_run_71 : decode cX5_run 71 = .ok (.i2l, 1) := by decide +kernel
theorem dX5_run_72 : decode cX5_run 72 = .ok (.lmul, 1) := by decide +kernel
theorem dX5_run_73 : decode cX5_run 73 = .ok (.iload_n 2, 1) := by decide +kernel
theorem dX5_run_74 : decode cX5_run 74 = .ok (.i2l, 1) := by decide +kernel
theorem dX5_run_75 : decode cX5_run 75 = .ok (.ldiv, 1) := by decide +kernel
theorem dX5_run_76 : decode cX5_run 76 = .ok (.lastore, 1) := by decide +kernel
theorem dX5_run_77 : decode cX5_run 77 = .ok (.aload_n 0, 1) := by decide +kernel
theorem dX5_run_78 : decode cX5_run 78 = .ok (.dup, 1) := by decide +kernel
theorem dX5_run_79 : decode cX5_run 79 = .ok (.getfield 159, 3) := by decide +kernel
theorem dX5_run_82 : decode cX5_run 82 = .ok (.iconst 1, 1) := by decide +kernel
theorem dX5_run_83 : decode cX5_run 83 = .ok (.iadd, 1) := by decide +kernel
theorem dX5_run_84 : decode cX5_run 84 = .ok (.putfield 159, 3) := by decide +kernel
theorem dX5_run_87 : decode cX5_run 87 = .ok (.aload_n 0, 1) := by decide +kernel
theorem dX5_run_88 : decode cX5_run 88 = .ok (.getfield 37, 3) := by decide +kernel
theorem dX5_run_91 : decode cX5_run 91 = .ok (.aload_n 0, 1) := by decide +kernel
theorem dX5_run_92 : decode cX5_run 92 = .ok (.getfield 159, 3) := by decide +kernel
theorem dX5_run_95 : decode cX5_run 95 = .ok (.iconst 1, 1) := by decide +kernel
theorem dX5_run_96 : decode cX5_run 96 = .ok (.isub, 1) := by decide +kernel
theorem dX5_run_97 : decode cX5_run 97 = .ok (.laload, 1) := by decide +kernel
theorem dX5_run_98 : decode cX5_run 98 = .ok (.lreturn, 1) := by decide +kernel
theorem dX5_isGood_0 : decode cX5_isGood 0 = .ok (.aload_n 0, 1) := by decide +kernel
theorem dX5_isGood_1 : decode cX5_isGood 1 = .ok (.getfield 159, 3) := by decide +kernel
theorem dX5_isGood_4 : decode cX5_isGood 4 = .ok (.iconst 5, 1) := by decide +kernel
theorem dX5_isGood_5 : decode cX5_isGood 5 = .ok (.if_icmp .ge 5, 3) := by decide +kernel
theorem dX5_isGood_8 : decode cX5_isGood 8 = .ok (.iconst 0, 1) := by decide +kernel
theorem dX5_isGood_9 : decode cX5_isGood 9 = .ok (.ireturn, 1) := by decide +kernel
theorem dX5_isGood_10 : decode cX5_isGood 10 = .ok (.aload_n 0, 1) := by decide +kernel
theorem dX5_isGood_11 : decode cX5_isGood 11 = .ok (.getfield 37, 3) := by decide +kernel
theorem dX5_isGood_14 : decode cX5_isGood 14 = .ok (.aload_n 0, 1) := by decide +kernel
theorem dX5_isGood_15 : decode cX5_isGood 15 = .ok (.getfield 159, 3) := by decide +kernel
theorem dX5_isGood_18 : decode cX5_isGood 18 = .ok (.iconst 1, 1) := by decide +kernel
theorem dX5_isGood_19 : decode cX5_isGood 19 = .ok (.isub, 1) := by decide +kernel
theorem dX5_isGood_20 : decode cX5_isGood 20 = .ok (.laload, 1) := by decide +kernel
theorem dX5_isGood_21 : decode cX5_isGood 21 = .ok (.lstore_n 1, 1) := by decide +kernel
theorem dX5_isGood_22 : decode cX5_isGood 22 = .ok (.lload_n 1, 1) := by decide +kernel
theorem dX5_isGood_23 : decode cX5_isGood 23 = .ok (.lstore_n 3, 1) := by decide +kernel
theorem dX5_isGood_24 : decode cX5_isGood 24 = .ok (.aload_n 0, 1) := by decide +kernel
theorem dX5_isGood_25 : decode cX5_isGood 25 = .ok (.getfield 159, 3) := by decide +kernel
theorem dX5_isGood_28 : decode cX5_isGood 28 = .ok (.iconst 5, 1) := by decide +kernel
theorem dX5_isGood_29 : decode cX5_isGood 29 = .ok (.isub, 1) := by decide +kernel
theorem dX5_isGood_30 : decode cX5_isGood 30 = .ok (.istore 5, 2) := by decide +kernel
theorem dX5_isGood_32 : decode cX5_isGood 32 = .ok (.iload 5, 2) := by decide +kernel
theorem dX5_isGood_34 : decode cX5_isGood 34 = .ok (.aload_n 0, 1) := by decide +kernel
theorem dX5_isGood_35 : decode cX5_isGood 35 = .ok (.getfield 159, 3) := by decide +kernel
theorem dX5_isGood_38 : decode cX5_isGood 38 = .ok (.if_icmp .ge 57, 3) := by decide +kernel
theorem dX5_isGood_41 : decode cX5_isGood 41 = .ok (.aload_n 0, 1) := by decide +kernel
theorem dX5_isGood_42 : decode cX5_isGood 42 = .ok (.getfield 37, 3) := by decide +kernel
theorem dX5_isGood_45 : decode cX5_isGood 45 = .ok (.iload 5, 2) := by decide +kernel
theorem dX5_isGood_47 : decode cX5_isGood 47 = .ok (.laload, 1) := by decide +kernel
theorem dX5_isGood_48 : decode cX5_isGood 48 = .ok (.lload_n 1, 1) := by decide +kernel
theorem dX5_isGood_49 : decode cX5_isGood 49 = .ok (.lcmp, 1) := by decide +kernel
theorem dX5_isGood_50 : decode cX5_isGood 50 = .ok (.ifCond .ge 13, 3) := by decide +kernel
theorem dX5_isGood_53 : decode cX5_isGood 53 = .ok (.aload_n 0, 1) := by decide +kernel
theorem dX5_isGood_54 : decode cX5_isGood 54 = .ok (.getfield 37, 3) := by decide +kernel
theorem dX5_isGood_57 : decode cX5_isGood 57 = .ok (.iload 5, 2) := by decide +kernel
theorem dX5_isGood_59 : decode cX5_isGood 59 = .ok (.laload, 1) := by decide +kernel
theorem dX5_isGood_60 : decode cX5_isGood 60 = .ok (.goto 4, 3) := by decide +kernel
theorem dX5_isGood_63 : decode cX5_isGood 63 = .ok (.lload_n 1, 1) := by decide +kernel
theorem dX5_isGood_64 : decode cX5_isGood 64 = .ok (.lstore_n 1, 1) := by decide +kernel
theorem dX5_isGood_65 : decode cX5_isGood 65 = .ok (.aload_n 0, 1) := by decide +kernel
theorem dX5_isGood_66 : decode cX5_isGood 66 = .ok (.getfield 37, 3) := by decide +kernel
theorem dX5_isGood_69 : decode cX5_isGood 69 = .ok (.iload 5, 2) := by decide +kernel
theorem dX5_isGood_71 : decode cX5_isGood 71 = .ok (.laload, 1) := by decide +kernel
theorem dX5_isGood_72 : decode cX5_isGood 72 = .ok (.lload_n 3, 1) := by decide +kernel
theorem dX5_isGood_73 : decode cX5_isGood 73 = .ok (.lcmp, 1) := by decide +kernel
theorem dX5_isGood_74 : decode cX5_isGood 74 = .ok (.ifCond .le 13, 3) := by decide +kernel
theorem dX5_isGood_77 : decode cX5_isGood 77 = .ok (.aload_n 0, 1) := by decide +kernel
theorem dX5_isGood_78 : decode cX5_isGood 78 = .ok (.getfield 37, 3) := by decide +kernel
theorem dX5_isGood_81 : decode cX5_isGood 81 = .ok (.iload 5, 2) := by decide +kernel
theorem dX5_isGood_83 : decode cX5_isGood 83 = .ok (.laload, 1) := by decide +kernel
theorem dX5_isGood_84 : decode cX5_isGood 84 = .ok (.goto 4, 3) := by decide +kernel
theorem dX5_isGood_87 : decode cX5_isGood 87 = .ok (.lload_n 3, 1) := by decide +kernel
theorem dX5_isGood_88 : decode cX5_isGood 88 = .ok (.lstore_n 3, 1) := by decide +kernel
theorem dX5_isGood_89 : decode cX5_isGood 89 = .ok (.iinc 5 1, 3) := by decide +kernel
theorem dX5_isGood_92 : decode cX5_isGood 92 = .ok (.goto (-60), 3) := by decide +kernel
theorem dX5_isGood_95 : decode cX5_isGood 95 = .ok (.lload_n 1, 1) := by decide +kernel
theorem dX5_isGood_96 : decode cX5_isGood 96 = .ok (.lconst 0, 1) := by decide +kernel
theorem dX5_isGood_97 : decode cX5_isGood 97 = .ok (.lcmp, 1) := by decide +kernel
theorem dX5_isGood_98 : decode cX5_isGood 98 = .ok (.ifCond .le 19, 3) := by decide +kernel
theorem dX5_isGood_101 : decode cX5_isGood 101 = .ok (.ldc2_w 162, 3) := by decide +kernel
theorem dX5_isGood_104 : decode cX5_isGood 104 = .ok (.lload_n 3, 1) := by decide +kernel
theorem dX5_isGood_105 : decode cX5_isGood 105 = .ok (.lload_n 1, 1) := by decide +kernel
theorem dX5_isGood_106 : decode cX5_isGood 106 = .ok (.lsub, 1) := by decide +kernel
theorem dX5_isGood_107 : decode cX5_isGood 107 = .ok (.lmul, 1) := by decide +kernel
theorem dX5_isGood_108 : decode cX5_isGood 108 = .ok (.lload_n 1, 1) := by decide +kernel
theorem dX5_isGood_109 : decode cX5_isGood 109 = .ok (.lcmp, 1) := by decide +kernel
theorem dX5_isGood_110 : decode cX5_isGood 110 = .ok (.ifCond .gt 7, 3) := by decide +kernel
theorem dX5_isGood_113 : decode cX5_isGood 113 = .ok (.iconst 1, 1) := by decide +kernel
theorem dX5_isGood_114 : decode cX5_isGood 114 = .ok (.goto 4, 3) := by decide +kernel
theorem dX5_isGood_117 : decode cX5_isGood 117 = .ok (.iconst 0, 1) := by decide +kernel
theorem dX5_isGood_118 : decode cX5_isGood 118 = .ok (.ireturn, 1) := by decide +kernel
theorem dX5_proving_0 : decode cX5_proving 0 = .ok (.iload_n 1, 1) := by decide +kernel
theorem dX5_proving_1 : decode cX5_proving 1 = .ok (.i2l, 1) := by decide +kernel
theorem dX5_proving_2 : decode cX5_proving 2 = .ok (.lconst 0, 1) := by decide +kernel
theorem dX5_proving_3 : decode cX5_proving 3 = .ok (.ldc2_w 164, 3) := by decide +kernel
theorem dX5_proving_6 : decode cX5_proving 6 = .ok (.invokestatic 101, 3) := by decide +kernel
theorem dX5_proving_9 : decode cX5_proving 9 = .ok (.ifCond .ne 6, 3) := by decide +kernel
theorem dX5_proving_12 : decode cX5_proving 12 = .ok (.bipush (-2), 2) := by decide +kernel
theorem dX5_proving_14 : decode cX5_proving 14 = .ok (.ireturn, 1) := by decide +kernel
theorem dX5_proving_15 : decode cX5_proving 15 = .ok (.aload_n 0, 1) := by decide +kernel
theorem dX5_proving_16 : decode cX5_proving 16 = .ok (.getfield 84, 3) := by decide +kernel
theorem dX5_proving_19 : decode cX5_proving 19 = .ok (.ifCond .ge 6, 3) := by decide +kernel
theorem dX5_proving_22 : decode cX5_proving 22 = .ok (.bipush (-3), 2) := by decide +kernel
theorem dX5_proving_24 : decode cX5_proving 24 = .ok (.ireturn, 1) := by decide +kernel
theorem dX5_proving_25 : decode cX5_proving 25 = .ok (.iload_n 1, 1) := by decide +kernel
theorem dX5_proving_26 : decode cX5_proving 26 = .ok (.ifCond .ne 10, 3) := by decide +kernel
theorem dX5_proving_29 : decode cX5_proving 29 = .ok (.aload_n 0, 1) := by decide +kernel
theorem dX5_proving_30 : decode cX5_proving 30 = .ok (.getfield 159, 3) := by decide +kernel
theorem dX5_proving_33 : decode cX5_proving 33 = .ok (.goto 39, 3) := by decide +kernel
theorem dX5_proving_36 : decode cX5_proving 36 = .ok (.iload_n 1, 1) := by decide +kernel
theorem dX5_proving_37 : decode cX5_proving 37 = .ok (.iconst 1, 1) := by decide +kernel
theorem dX5_proving_38 : decode cX5_proving 38 = .ok (.if_icmp .ne 18, 3) := by decide +kernel
theorem dX5_proving_41 : decode cX5_proving 41 = .ok (.aload_n 0, 1) := by decide +kernel
theorem dX5_proving_42 : decode cX5_proving 42 = .ok (.invokevirtual 166, 3) := by decide +kernel
theorem dX5_proving_45 : decode cX5_proving 45 = .ok (.ifCond .eq 7, 3) := by decide +kernel
theorem dX5_proving_48 : decode cX5_proving 48 = .ok (.iconst 1, 1) := by decide +kernel
theorem dX5_proving_49 : decode cX5_proving 49 = .ok (.goto 23, 3) := by decide +kernel
theorem dX5_proving_52 : decode cX5_proving 52 = .ok (.iconst 0, 1) := by decide +kernel
theorem dX5_proving_53 : decode cX5_proving 53 = .ok (.goto 19, 3) := by decide +kernel
theorem dX5_proving_56 : decode cX5_proving 56 = .ok (.iload_n 1, 1) := by decide +kernel
theorem dX5_proving_57 : decode cX5_proving 57 = .ok (.iconst 2, 1) := by decide +kernel
theorem dX5_proving_58 : decode cX5_proving 58 = .ok (.if_icmp .ne 10, 3) := by decide +kernel
theorem dX5_proving_61 : decode cX5_proving 61 = .ok (.aload_n 0, 1) := by decide +kernel
theorem dX5_proving_62 : decode cX5_proving 62 = .ok (.getfield 84, 3) := by decide +kernel
theorem dX5_proving_65 : decode cX5_proving 65 = .ok (.goto 7, 3) := by decide +kernel
theorem dX5_proving_68 : decode cX5_proving 68 = .ok (.aload_n 0, 1) := by decide +kernel
theorem dX5_proving_69 : decode cX5_proving 69 = .ok (.getfield 153, 3) := by decide +kernel
theorem dX5_proving_72 : decode cX5_proving 72 = .ok (.ireturn, 1) := by decide +kernel
theorem dX5_accept_0 : decode cX5_accept 0 = .ok (.iload_n 1, 1) := by decide +kernel
theorem dX5_accept_1 : decode cX5_accept 1 = .ok (.invokestatic 122, 3) := by decide +kernel
theorem dX5_accept_4 : decode cX5_accept 4 = .ok (.ifCond .ne 6, 3) := by decide +kernel
theorem dX5_accept_7 : decode cX5_accept 7 = .ok (.bipush (-2), 2) := by decide +kernel
theorem dX5_accept_9 : decode cX5_accept 9 = .ok (.ireturn, 1) := by decide +kernel
theorem dX5_accept_10 : decode cX5_accept 10 = .ok (.aload_n 0, 1) := by decide +kernel
theorem dX5_accept_11 : decode cX5_accept 11 = .ok (.getfield 84, 3) := by decide +kernel
theorem dX5_accept_14 : decode cX5_accept 14 = .ok (.ifCond .lt 10, 3) := by decide +kernel
theorem dX5_accept_17 : decode cX5_accept 17 = .ok (.aload_n 0, 1) := by decide +kernel
theorem dX5_accept_18 : decode cX5_accept 18 = .ok (.invokevirtual 166, 3) := by decide +kernel
theorem dX5_accept_21 : decode cX5_accept 21 = .ok (.ifCond .ne 6, 3) := by decide +kernel
theorem dX5_accept_24 : decode cX5_accept 24 = .ok (.bipush (-3), 2) := by decide +kernel
theorem dX5_accept_26 : decode cX5_accept 26 = .ok (.ireturn, 1) := by decide +kernel
theorem dX5_accept_27 : decode cX5_accept 27 = .ok (.lconst 0, 1) := by decide +kernel
theorem dX5_accept_28 : decode cX5_accept 28 = .ok (.lstore_n 2, 1) := by decide +kernel
theorem dX5_accept_29 : decode cX5_accept 29 = .ok (.aload_n 0, 1) := by decide +kernel
theorem dX5_accept_30 : decode cX5_accept 30 = .ok (.getfield 159, 3) := by decide +kernel
theorem dX5_accept_33 : decode cX5_accept 33 = .ok (.iconst 5, 1) := by decide +kernel
theorem dX5_accept_34 : decode cX5_accept 34 = .ok (.isub, 1) := by decide +kernel
theorem dX5_accept_35 : decode cX5_accept 35 = .ok (.istore 4, 2) := by decide +kernel
theorem dX5_accept_37 : decode cX5_accept 37 = .ok (.iload 4, 2) := by decide +kernel
theorem dX5_accept_39 : decode cX5_accept 39 = .ok (.aload_n 0, 1) := by decide +kernel
theorem dX5_accept_40 : decode cX5_accept 40 = .ok (.getfield 159, 3) := by decide +kernel
theorem dX5_accept_43 : decode cX5_accept 43 = .ok (.if_icmp .ge 19, 3) := by decide +kernel
theorem dX5_accept_46 : decode cX5_accept 46 = .ok (.lload_n 2, 1) := by decide +kernel
theorem dX5_accept_47 : decode cX5_accept 47 = .ok (.aload_n 0, 1) := by decide +kernel
theorem dX5_accept_48 : decode cX5_accept 48 = .ok (.getfield 37, 3) := by decide +kernel
theorem dX5_accept_51 : decode cX5_accept 51 = .ok (.iload 4, 2) := by decide +kernel
theorem dX5_accept_53 : decode cX5_accept 53 = .ok (.laload, 1) := by decide +kernel
theorem dX5_accept_54 : decode cX5_accept 54 = .ok (.ladd, 1) := by decide +kernel
theorem dX5_accept_55 : decode cX5_accept 55 = .ok (.lstore_n 2, 1) := by decide +kernel
theorem dX5_accept_56 : decode cX5_accept 56 = .ok (.iinc 4 1, 3) := by decide +kernel
theorem dX5_accept_59 : decode cX5_accept 59 = .ok (.goto (-22), 3) := by decide +kernel
theorem dX5_accept_62 : decode cX5_accept 62 = .ok (.ldc2_w 170, 3) := by decide +kernel
theorem dX5_accept_65 : decode cX5_accept 65 = .ok (.aload_n 0, 1) := by decide +kernel
theorem dX5_accept_66 : decode cX5_accept 66 = .ok (.getfield 156, 3) := by decide +kernel
theorem dX5_accept_69 : decode cX5_accept 69 = .ok (.i2l, 1) := by decide +kernel
theorem dX5_accept_70 : decode cX5_accept 70 = .ok (.lmul, 1) := by decide +kernel
theorem dX5_accept_71 : decode cX5_accept 71 = .ok (.aload_n 0, 1) := by decide +kernel
theorem dX5_accept_72 : decode cX5_accept 72 = .ok (.getfield 7, 3) := by decide +kernel
theorem dX5_accept_75 : decode cX5_accept 75 = .ok (.aload_n 0, 1) := by decide +kernel
theorem dX5_accept_76 : decode cX5_accept 76 = .ok (.getfield 84, 3) := by decide +kernel
theorem dX5_accept_79 : decode cX5_accept 79 = .ok (.iaload, 1) := by decide +kernel
theorem dX5_accept_80 : decode cX5_accept 80 = .ok (.i2l, 1) := by decide +kernel
theorem dX5_accept_81 : decode cX5_accept 81 = .ok (.lmul, 1) := by decide +kernel
theorem dX5_accept_82 : decode cX5_accept 82 = .ok (.lload_n 2, 1) := by decide +kernel
theorem dX5_accept_83 : decode cX5_accept 83 = .ok (.invokestatic 172, 3) := by decide +kernel
theorem dX5_accept_86 : decode cX5_accept 86 = .ok (.lstore 4, 2) := by decide +kernel
theorem dX5_accept_88 : decode cX5_accept 88 = .ok (.lload 4, 2) := by decide +kernel
theorem dX5_accept_90 : decode cX5_accept 90 = .ok (.invokestatic 125, 3) := by decide +kernel
theorem dX5_accept_93 : decode cX5_accept 93 = .ok (.ifCond .ne 6, 3) := by decide +kernel
theorem dX5_accept_96 : decode cX5_accept 96 = .ok (.bipush (-9), 2) := by decide +kernel
theorem dX5_accept_98 : decode cX5_accept 98 = .ok (.ireturn, 1) := by decide +kernel
theorem dX5_accept_99 : decode cX5_accept 99 = .ok (.aload_n 0, 1) := by decide +kernel
theorem dX5_accept_100 : decode cX5_accept 100 = .ok (.getfield 13, 3) := by decide +kernel
theorem dX5_accept_103 : decode cX5_accept 103 = .ok (.aload_n 0, 1) := by decide +kernel
theorem dX5_accept_104 : decode cX5_accept 104 = .ok (.getfield 84, 3) := by decide +kernel
theorem dX5_accept_107 : decode cX5_accept 107 = .ok (.iaload, 1) := by decide +kernel
theorem dX5_accept_108 : decode cX5_accept 108 = .ok (.bipush 12, 2) := by decide +kernel
theorem dX5_accept_110 : decode cX5_accept 110 = .ok (.if_icmp .ne 6, 3) := by decide +kernel
theorem dX5_accept_113 : decode cX5_accept 113 = .ok (.bipush (-4), 2) := by decide +kernel
theorem dX5_accept_115 : decode cX5_accept 115 = .ok (.ireturn, 1) := by decide +kernel
theorem dX5_accept_116 : decode cX5_accept 116 = .ok (.aload_n 0, 1) := by decide +kernel
theorem dX5_accept_117 : decode cX5_accept 117 = .ok (.aload_n 0, 1) := by decide +kernel
theorem dX5_accept_118 : decode cX5_accept 118 = .ok (.getfield 84, 3) := by decide +kernel
theorem dX5_accept_121 : decode cX5_accept 121 = .ok (.aload_n 0, 1) := by decide +kernel
theorem dX5_accept_122 : decode cX5_accept 122 = .ok (.getfield 153, 3) := by decide +kernel
theorem dX5_accept_125 : decode cX5_accept 125 = .ok (.iload_n 1, 1) := by decide +kernel
theorem dX5_accept_126 : decode cX5_accept 126 = .ok (.lload 4, 2) := by decide +kernel
theorem dX5_accept_128 : decode cX5_accept 128 = .ok (.l2i, 1) := by decide +kernel
theorem dX5_accept_129 : decode cX5_accept 129 = .ok (.invokevirtual 129, 3) := by decide +kernel
theorem dX5_accept_132 : decode cX5_accept 132 = .ok (.aload_n 0, 1) := by decide +kernel
theorem dX5_accept_133 : decode cX5_accept 133 = .ok (.iconst (-1), 1) := by decide +kernel
theorem dX5_accept_134 : decode cX5_accept 134 = .ok (.putfield 84, 3) := by decide +kernel
theorem dX5_accept_137 : decode cX5_accept 137 = .ok (.lload 4, 2) := by decide +kernel
theorem dX5_accept_139 : decode cX5_accept 139 = .ok (.l2i, 1) := by decide +kernel
theorem dX5_accept_140 : decode cX5_accept 140 = .ok (.ireturn, 1) := by decide +kernel
theorem dX5_noTicket_0 : decode cX5_noTicket 0 = .ok (.iload_n 1, 1) := by decide +kernel
theorem dX5_noTicket_1 : decode cX5_noTicket 1 = .ok (.i2l, 1) := by decide +kernel
theorem dX5_noTicket_2 : decode cX5_noTicket 2 = .ok (.lconst 0, 1) := by decide +kernel
theorem dX5_noTicket_3 : decode cX5_noTicket 3 = .ok (.aload_n 0, 1) := by decide +kernel
theorem dX5_noTicket_4 : decode cX5_noTicket 4 = .ok (.getfield 176, 3) := by decide +kernel
theorem dX5_noTicket_7 : decode cX5_noTicket 7 = .ok (.i2l, 1) := by decide +kernel
theorem dX5_noTicket_8 : decode cX5_noTicket 8 = .ok (.lconst 1, 1) := by decide +kernel
theorem dX5_noTicket_9 : decode cX5_noTicket 9 = .ok (.lsub, 1) := by decide +kernel
theorem dX5_noTicket_10 : decode cX5_noTicket 10 = .ok (.invokestatic 101, 3) := by decide +kernel
theorem dX5_noTicket_13 : decode cX5_noTicket 13 = .ok (.ifCond .ne 7, 3) := by decide +kernel
theorem dX5_noTicket_16 : decode cX5_noTicket 16 = .ok (.iconst 1, 1) := by decide +kernel
theorem dX5_noTicket_17 : decode cX5_noTicket 17 = .ok (.goto 4, 3) := by decide +kernel
theorem dX5_noTicket_20 : decode cX5_noTicket 20 = .ok (.iconst 0, 1) := by decide +kernel
theorem dX5_noTicket_21 : decode cX5_noTicket 21 = .ok (.ireturn, 1) := by decide +kernel
theorem dX5_isShut_0 : decode cX5_isShut 0 = .ok (.aload_n 0, 1) := by decide +kernel
theorem dX5_isShut_1 : decode cX5_isShut 1 = .ok (.getfield 80, 3) := by decide +kernel
theorem dX5_isShut_4 : decode cX5_isShut 4 = .ok (.ifCond .lt 15, 3) := by decide +kernel
theorem dX5_isShut_7 : decode cX5_isShut 7 = .ok (.iload_n 1, 1) := by decide +kernel
theorem dX5_isShut_8 : decode cX5_isShut 8 = .ok (.aload_n 0, 1) := by decide +kernel
theorem dX5_isShut_9 : decode cX5_isShut 9 = .ok (.getfield 80, 3) := by decide +kernel
theorem dX5_isShut_12 : decode cX5_isShut 12 = .ok (.if_icmp .gt 7, 3) := by decide +kernel
theorem dX5_isShut_15 : decode cX5_isShut 15 = .ok (.iconst 1, 1) := by decide +kernel
theorem dX5_isShut_16 : decode cX5_isShut 16 = .ok (.goto 4, 3) := by decide +kernel
theorem dX5_isShut_19 : decode cX5_isShut 19 = .ok (.iconst 0, 1) := by decide +kernel
theorem dX5_isShut_20 : decode cX5_isShut 20 = .ok (.ireturn, 1) := by decide +kernel
theorem dX5_add_0 : decode cX5_add 0 = .ok (.aload_n 0, 1) := by decide +kernel
theorem dX5_add_1 : decode cX5_add 1 = .ok (.getfield 41, 3) := by decide +kernel
theorem dX5_add_4 : decode cX5_add 4 = .ok (.aload_n 0, 1) := by decide +kernel
theorem dX5_add_5 : decode cX5_add 5 = .ok (.getfield 176, 3) := by decide +kernel
theorem dX5_add_8 : decode cX5_add 8 = .ok (.iload_n 1, 1) := by decide +kernel
theorem dX5_add_9 : decode cX5_add 9 = .ok (.iastore, 1) := by decide +kernel
theorem dX5_add_10 : decode cX5_add 10 = .ok (.aload_n 0, 1) := by decide +kernel
theorem dX5_add_11 : decode cX5_add 11 = .ok (.getfield 44, 3) := by decide +kernel
theorem dX5_add_14 : decode cX5_add 14 = .ok (.aload_n 0, 1) := by decide +kernel
theorem dX5_add_15 : decode cX5_add 15 = .ok (.getfield 176, 3) := by decide +kernel
theorem dX5_add_18 : decode cX5_add 18 = .ok (.iload_n 2, 1) := by decide +kernel
theorem dX5_add_19 : decode cX5_add 19 = .ok (.iastore, 1) := by decide +kernel
theorem dX5_add_20 : decode cX5_add 20 = .ok (.aload_n 0, 1) := by decide +kernel
theorem dX5_add_21 : decode cX5_add 21 = .ok (.getfield 47, 3) := by decide +kernel
theorem dX5_add_24 : decode cX5_add 24 = .ok (.aload_n 0, 1) := by decide +kernel
theorem dX5_add_25 : decode cX5_add 25 = .ok (.getfield 176, 3) := by decide +kernel
theorem dX5_add_28 : decode cX5_add 28 = .ok (.iload_n 3, 1) := by decide +kernel
theorem dX5_add_29 : decode cX5_add 29 = .ok (.iastore, 1) := by decide +kernel
theorem dX5_add_30 : decode cX5_add 30 = .ok (.aload_n 0, 1) := by decide +kernel
theorem dX5_add_31 : decode cX5_add 31 = .ok (.getfield 50, 3) := by decide +kernel
theorem dX5_add_34 : decode cX5_add 34 = .ok (.aload_n 0, 1) := by decide +kernel
theorem dX5_add_35 : decode cX5_add 35 = .ok (.getfield 176, 3) := by decide +kernel
theorem dX5_add_38 : decode cX5_add 38 = .ok (.iload 4, 2) := by decide +kernel
theorem dX5_add_40 : decode cX5_add 40 = .ok (.iastore, 1) := by decide +kernel
theorem dX5_add_41 : decode cX5_add 41 = .ok (.aload_n 0, 1) := by decide +kernel
theorem dX5_add_42 : decode cX5_add 42 = .ok (.getfield 53, 3) := by decide +kernel
theorem dX5_add_45 : decode cX5_add 45 = .ok (.aload_n 0, 1) := by decide +kernel
theorem dX5_add_46 : decode cX5_add 46 = .ok (.getfield 176, 3) := by decide +kernel
theorem dX5_add_49 : decode cX5_add 49 = .ok (.iload 5, 2) := by decide +kernel
theorem dX5_add_51 : decode cX5_add 51 = .ok (.iastore, 1) := by decide +kernel
theorem dX5_add_52 : decode cX5_add 52 = .ok (.aload_n 0, 1) := by decide +kernel
theorem dX5_add_53 : decode cX5_add 53 = .ok (.getfield 56, 3) := by decide +kernel
theorem dX5_add_56 : decode cX5_add 56 = .ok (.aload_n 0, 1) := by decide +kernel
theorem dX5_add_57 : decode cX5_add 57 = .ok (.getfield 176, 3) := by decide +kernel
theorem dX5_add_60 : decode cX5_add 60 = .ok (.aload_n 0, 1) := by decide +kernel
theorem dX5_add_61 : decode cX5_add 61 = .ok (.iload_n 2, 1) := by decide +kernel
theorem dX5_add_62 : decode cX5_add 62 = .ok (.iload 5, 2) := by decide +kernel
theorem dX5_add_64 : decode cX5_add 64 = .ok (.iload_n 3, 1) := by decide +kernel
theorem dX5_add_65 : decode cX5_add 65 = .ok (.invokevirtual 145, 3) := by decide +kernel
theorem dX5_add_68 : decode cX5_add 68 = .ok (.iastore, 1) := by decide +kernel
theorem dX5_add_69 : decode cX5_add 69 = .ok (.aload_n 0, 1) := by decide +kernel
theorem dX5_add_70 : decode cX5_add 70 = .ok (.getfield 59, 3) := by decide +kernel
theorem dX5_add_73 : decode cX5_add 73 = .ok (.aload_n 0, 1) := by decide +kernel
theorem dX5_add_74 : decode cX5_add 74 = .ok (.getfield 176, 3) := by decide +kernel
theorem dX5_add_77 : decode cX5_add 77 = .ok (.bipush (-9), 2) := by decide +kernel
theorem dX5_add_79 : decode cX5_add 79 = .ok (.iastore, 1) := by decide +kernel
theorem dX5_add_80 : decode cX5_add 80 = .ok (.aload_n 0, 1) := by decide +kernel
theorem dX5_add_81 : decode cX5_add 81 = .ok (.getfield 62, 3) := by decide +kernel
theorem dX5_add_84 : decode cX5_add 84 = .ok (.aload_n 0, 1) := by decide +kernel
theorem dX5_add_85 : decode cX5_add 85 = .ok (.getfield 176, 3) := by decide +kernel
theorem dX5_add_88 : decode cX5_add 88 = .ok (.iload 6, 2) := by decide +kernel
theorem dX5_add_90 : decode cX5_add 90 = .ok (.iastore, 1) := by decide +kernel
theorem dX5_add_91 : decode cX5_add 91 = .ok (.aload_n 0, 1) := by decide +kernel
theorem dX5_add_92 : decode cX5_add 92 = .ok (.dup, 1) := by decide +kernel
theorem dX5_add_93 : decode cX5_add 93 = .ok (.getfield 176, 3) := by decide +kernel
theorem dX5_add_96 : decode cX5_add 96 = .ok (.iconst 1, 1) := by decide +kernel
theorem dX5_add_97 : decode cX5_add 97 = .ok (.iadd, 1) := by decide +kernel
theorem dX5_add_98 : decode cX5_add 98 = .ok (.putfield 176, 3) := by decide +kernel
theorem dX5_add_101 : decode cX5_add 101 = .ok (.aload_n 0, 1) := by decide +kernel
theorem dX5_add_102 : decode cX5_add 102 = .ok (.getfield 176, 3) := by decide +kernel
theorem dX5_add_105 : decode cX5_add 105 = .ok (.iconst 1, 1) := by decide +kernel
theorem dX5_add_106 : decode cX5_add 106 = .ok (.isub, 1) := by decide +kernel
theorem dX5_add_107 : decode cX5_add 107 = .ok (.ireturn, 1) := by decide +kernel
theorem dX5_ticket_0 : decode cX5_ticket 0 = .ok (.aload_n 0, 1) := by decide +kernel
theorem dX5_ticket_1 : decode cX5_ticket 1 = .ok (.iload_n 1, 1) := by decide +kernel
theorem dX5_ticket_2 : decode cX5_ticket 2 = .ok (.invokevirtual 115, 3) := by decide +kernel
theorem dX5_ticket_5 : decode cX5_ticket 5 = .ok (.ifCond .eq 5, 3) := by decide +kernel
theorem dX5_ticket_8 : decode cX5_ticket 8 = .ok (.iconst (-1), 1) := by decide +kernel
theorem dX5_ticket_9 : decode cX5_ticket 9 = .ok (.ireturn, 1) := by decide +kernel
theorem dX5_ticket_10 : decode cX5_ticket 10 = .ok (.iload_n 2, 1) := by decide +kernel
theorem dX5_ticket_11 : decode cX5_ticket 11 = .ok (.invokestatic 122, 3) := by decide +kernel
theorem dX5_ticket_14 : decode cX5_ticket 14 = .ok (.ifCond .eq 23, 3) := by decide +kernel
theorem dX5_ticket_17 : decode cX5_ticket 17 = .ok (.iload_n 3, 1) := by decide +kernel
theorem dX5_ticket_18 : decode cX5_ticket 18 = .ok (.i2l, 1) := by decide +kernel
theorem dX5_ticket_19 : decode cX5_ticket 19 = .ok (.lconst 0, 1) := by decide +kernel
theorem dX5_ticket_20 : decode cX5_ticket 20 = .ok (.ldc2_w 179, 3) := by decide +kernel
theorem dX5_ticket_23 : decode cX5_ticket 23 = .ok (.invokestatic 101, 3) := by decide +kernel
theorem dX5_ticket_26 : decode cX5_ticket 26 = .ok (.ifCond .eq 11, 3) := by decide +kernel
theorem dX5_ticket_29 : decode cX5_ticket 29 = .ok (.iload 4, 2) := by decide +kernel
theorem dX5_ticket_31 : decode cX5_ticket 31 = .ok (.invokestatic 119, 3) := by decide +kernel
theorem dX5_ticket_34 : decode cX5_ticket 34 = .ok (.ifCond .ne 6, 3) := by decide +kernel
theorem dX5_ticket_37 : decode cX5_ticket 37 = .ok (.bipush (-2), 2) := by decide +kernel
theorem dX5_ticket_39 : decode cX5_ticket 39 = .ok (.ireturn, 1) := by decide +kernel
theorem dX5_ticket_40 : decode cX5_ticket 40 = .ok (.aload_n 0, 1) := by decide +kernel
theorem dX5_ticket_41 : decode cX5_ticket 41 = .ok (.iload_n 2, 1) := by decide +kernel
theorem dX5_ticket_42 : decode cX5_ticket 42 = .ok (.invokevirtual 181, 3) := by decide +kernel
theorem dX5_ticket_45 : decode cX5_ticket 45 = .ok (.ifCond .eq 6, 3) := by decide +kernel
theorem dX5_ticket_48 : decode cX5_ticket 48 = .ok (.bipush (-3), 2) := by decide +kernel
theorem dX5_ticket_50 : decode cX5_ticket 50 = .ok (.ireturn, 1) := by decide +kernel
theorem dX5_ticket_51 : decode cX5_ticket 51 = .ok (.aload_n 0, 1) := by decide +kernel
theorem dX5_ticket_52 : decode cX5_ticket 52 = .ok (.getfield 176, 3) := by decide +kernel
theorem dX5_ticket_55 : decode cX5_ticket 55 = .ok (.bipush 40, 2) := by decide +kernel
theorem dX5_ticket_57 : decode cX5_ticket 57 = .ok (.if_icmp .ne 8, 3) := by decide +kernel
theorem dX5_ticket_60 : decode cX5_ticket 60 = .ok (.bipush (-4), 2) := by decide +kernel
theorem dX5_ticket_62 : decode cX5_ticket 62 = .ok (.goto 15, 3) := by decide +kernel
theorem dX5_ticket_65 : decode cX5_ticket 65 = .ok (.aload_n 0, 1) := by decide +kernel
theorem dX5_ticket_66 : decode cX5_ticket 66 = .ok (.iconst 0, 1) := by decide +kernel
theorem dX5_ticket_67 : decode cX5_ticket 67 = .ok (.iload_n 1, 1) := by decide +kernel
theorem dX5_ticket_68 : decode cX5_ticket 68 = .ok (.iload_n 2, 1) := by decide +kernel
theorem dX5_ticket_69 : decode cX5_ticket 69 = .ok (.iload_n 3, 1) := by decide +kernel
theorem dX5_ticket_70 : decode cX5_ticket 70 = .ok (.iload 4, 2) := by decide +kernel
theorem dX5_ticket_72 : decode cX5_ticket 72 = .ok (.bipush (-9), 2) := by decide +kernel
theorem dX5_ticket_74 : decode cX5_ticket 74 = .ok (.invokevirtual 184, 3) := by decide +kernel
theorem dX5_ticket_77 : decode cX5_ticket 77 = .ok (.ireturn, 1) := by decide +kernel
theorem dX5_right_0 : decode cX5_right 0 = .ok (.aload_n 0, 1) := by decide +kernel
theorem dX5_right_1 : decode cX5_right 1 = .ok (.iload_n 1, 1) := by decide +kernel
theorem dX5_right_2 : decode cX5_right 2 = .ok (.invokevirtual 188, 3) := by decide +kernel
theorem dX5_right_5 : decode cX5_right 5 = .ok (.ifCond .eq 5, 3) := by decide +kernel
theorem dX5_right_8 : decode cX5_right 8 = .ok (.iconst (-1), 1) := by decide +kernel
theorem dX5_right_9 : decode cX5_right 9 = .ok (.ireturn, 1) := by decide +kernel
theorem dX5_right_10 : decode cX5_right 10 = .ok (.iload_n 2, 1) := by decide +kernel
theorem dX5_right_11 : decode cX5_right 11 = .ok (.i2l, 1) := by decide +kernel
theorem dX5_right_12 : decode cX5_right 12 = .ok (.lconst 0, 1) := by decide +kernel
theorem dX5_right_13 : decode cX5_right 13 = .ok (.ldc2_w 179, 3) := by decide +kernel
theorem dX5_right_16 : decode cX5_right 16 = .ok (.invokestatic 101, 3) := by decide +kernel
theorem dX5_right_19 : decode cX5_right 19 = .ok (.ifCond .ne 6, 3) := by decide +kernel
theorem dX5_right_22 : decode cX5_right 22 = .ok (.bipush (-2), 2) := by decide +kernel
theorem dX5_right_24 : decode cX5_right 24 = .ok (.ireturn, 1) := by decide +kernel
theorem dX5_right_25 : decode cX5_right 25 = .ok (.aload_n 0, 1) := by decide +kernel
theorem dX5_right_26 : decode cX5_right 26 = .ok (.getfield 59, 3) := by decide +kernel
theorem dX5_right_29 : decode cX5_right 29 = .ok (.iload_n 1, 1) := by decide +kernel
theorem dX5_right_30 : decode cX5_right 30 = .ok (.iaload, 1) := by decide +kernel
theorem dX5_right_31 : decode cX5_right 31 = .ok (.ifCond .ge 16, 3) := by decide +kernel
theorem dX5_right_34 : decode cX5_right 34 = .ok (.aload_n 0, 1) := by decide +kernel
theorem dX5_right_35 : decode cX5_right 35 = .ok (.aload_n 0, 1) := by decide +kernel
theorem dX5_right_36 : decode cX5_right 36 = .ok (.getfield 47, 3) := by decide +kernel
theorem dX5_right_39 : decode cX5_right 39 = .ok (.iload_n 1, 1) := by decide +kernel
theorem dX5_right_40 : decode cX5_right 40 = .ok (.iaload, 1) := by decide +kernel
theorem dX5_right_41 : decode cX5_right 41 = .ok (.invokevirtual 181, 3) := by decide +kernel
theorem dX5_right_44 : decode cX5_right 44 = .ok (.ifCond .eq 6, 3) := by decide +kernel
theorem dX5_right_47 : decode cX5_right 47 = .ok (.bipush (-3), 2) := by decide +kernel
theorem dX5_right_49 : decode cX5_right 49 = .ok (.ireturn, 1) := by decide +kernel
theorem dX5_right_50 : decode cX5_right 50 = .ok (.aload_n 0, 1) := by decide +kernel
theorem dX5_right_51 : decode cX5_right 51 = .ok (.getfield 176, 3) := by decide +kernel
theorem dX5_right_54 : decode cX5_right 54 = .ok (.bipush 40, 2) := by decide +kernel
theorem dX5_right_56 : decode cX5_right 56 = .ok (.if_icmp .ne 6, 3) := by decide +kernel
theorem dX5_right_59 : decode cX5_right 59 = .ok (.bipush (-4), 2) := by decide +kernel
theorem dX5_right_61 : decode cX5_right 61 = .ok (.ireturn, 1) := by decide +kernel
theorem dX5_right_62 : decode cX5_right 62 = .ok (.aload_n 0, 1) := by decide +kernel
theorem dX5_right_63 : decode cX5_right 63 = .ok (.getfield 59, 3) := by decide +kernel
theorem dX5_right_66 : decode cX5_right 66 = .ok (.iload_n 1, 1) := by decide +kernel
theorem dX5_right_67 : decode cX5_right 67 = .ok (.aload_n 0, 1) := by decide +kernel
theorem dX5_right_68 : decode cX5_right 68 = .ok (.getfield 176, 3) := by decide +kernel
theorem dX5_right_71 : decode cX5_right 71 = .ok (.iastore, 1) := by decide +kernel
theorem dX5_right_72 : decode cX5_right 72 = .ok (.aload_n 0, 1) := by decide +kernel
theorem dX5_right_73 : decode cX5_right 73 = .ok (.iconst 1, 1) := by decide +kernel
theorem dX5_right_74 : decode cX5_right 74 = .ok (.aload_n 0, 1) := by decide +kernel
theorem dX5_right_75 : decode cX5_right 75 = .ok (.getfield 44, 3) := by decide +kernel
theorem dX5_right_78 : decode cX5_right 78 = .ok (.iload_n 1, 1) := by decide +kernel
theorem dX5_right_79 : decode cX5_right 79 = .ok (.iaload, 1) := by decide +kernel
theorem dX5_right_80 : decode cX5_right 80 = .ok (.aload_n 0, 1) := by decide +kernel
theorem dX5_right_81 : decode cX5_right 81 = .ok (.getfield 47, 3) := by decide +kernel
theorem dX5_right_84 : decode cX5_right 84 = .ok (.iload_n 1, 1) := by decide +kernel
theorem dX5_right_85 : decode cX5_right 85 = .ok (.iaload, 1) := by decide +kernel
theorem dX5_right_86 : decode cX5_right 86 = .ok (.iload_n 2, 1) := by decide +kernel
theorem dX5_right_87 : decode cX5_right 87 = .ok (.aload_n 0, 1) := by decide +kernel
theorem dX5_right_88 : decode cX5_right 88 = .ok (.getfield 53, 3) := by decide +kernel
theorem dX5_right_91 : decode cX5_right 91 = .ok (.iload_n 1, 1) := by decide +kernel
theorem dX5_right_92 : decode cX5_right 92 = .ok (.iaload, 1) := by decide +kernel
theorem dX5_right_93 : decode cX5_right 93 = .ok (.iload_n 1, 1) := by decide +kernel
theorem dX5_right_94 : decode cX5_right 94 = .ok (.invokevirtual 184, 3) := by decide +kernel
theorem dX5_right_97 : decode cX5_right 97 = .ok (.ireturn, 1) := by decide +kernel
theorem dX5_areDays_0 : decode cX5_areDays 0 = .ok (.iload_n 0, 1) := by decide +kernel
theorem dX5_areDays_1 : decode cX5_areDays 1 = .ok (.invokestatic 122, 3) := by decide +kernel
theorem dX5_areDays_4 : decode cX5_areDays 4 = .ok (.ifCond .eq 19, 3) := by decide +kernel
theorem dX5_areDays_7 : decode cX5_areDays 7 = .ok (.iload_n 1, 1) := by decide +kernel
theorem dX5_areDays_8 : decode cX5_areDays 8 = .ok (.invokestatic 122, 3) := by decide +kernel
theorem dX5_areDays_11 : decode cX5_areDays 11 = .ok (.ifCond .eq 12, 3) := by decide +kernel
theorem dX5_areDays_14 : decode cX5_areDays 14 = .ok (.iload_n 0, 1) := by decide +kernel
theorem dX5_areDays_15 : decode cX5_areDays 15 = .ok (.iload_n 1, 1) := by decide +kernel
theorem dX5_areDays_16 : decode cX5_areDays 16 = .ok (.if_icmp .gt 7, 3) := by decide +kernel
theorem dX5_areDays_19 : decode cX5_areDays 19 = .ok (.iconst 1, 1) := by decide +kernel
theorem dX5_areDays_20 : decode cX5_areDays 20 = .ok (.goto 4, 3) := by decide +kernel
theorem dX5_areDays_23 : decode cX5_areDays 23 = .ok (.iconst 0, 1) := by decide +kernel
theorem dX5_areDays_24 : decode cX5_areDays 24 = .ok (.ireturn, 1) := by decide +kernel
theorem dX5_isStale_0 : decode cX5_isStale 0 = .ok (.aload_n 0, 1) := by decide +kernel
theorem dX5_isStale_1 : decode cX5_isStale 1 = .ok (.getfield 44, 3) := by decide +kernel
theorem dX5_isStale_4 : decode cX5_isStale 4 = .ok (.iload_n 1, 1) := by decide +kernel
theorem dX5_isStale_5 : decode cX5_isStale 5 = .ok (.iaload, 1) := by decide +kernel
theorem dX5_isStale_6 : decode cX5_isStale 6 = .ok (.iload_n 2, 1) := by decide +kernel
theorem dX5_isStale_7 : decode cX5_isStale 7 = .ok (.if_icmp .ne 60, 3) := by decide +kernel
theorem dX5_isStale_10 : decode cX5_isStale 10 = .ok (.aload_n 0, 1) := by decide +kernel
theorem dX5_isStale_11 : decode cX5_isStale 11 = .ok (.getfield 47, 3) := by decide +kernel
theorem dX5_isStale_14 : decode cX5_isStale 14 = .ok (.iload_n 1, 1) := by decide +kernel
theorem dX5_isStale_15 : decode cX5_isStale 15 = .ok (.iaload, 1) := by decide +kernel
theorem dX5_isStale_16 : decode cX5_isStale 16 = .ok (.i2l, 1) := by decide +kernel
theorem dX5_isStale_17 : decode cX5_isStale 17 = .ok (.iload_n 3, 1) := by decide +kernel
theorem dX5_isStale_18 : decode cX5_isStale 18 = .ok (.i2l, 1) := by decide +kernel
theorem dX5_isStale_19 : decode cX5_isStale 19 = .ok (.iload 4, 2) := by decide +kernel
theorem dX5_isStale_21 : decode cX5_isStale 21 = .ok (.i2l, 1) := by decide +kernel
theorem dX5_isStale_22 : decode cX5_isStale 22 = .ok (.invokestatic 101, 3) := by decide +kernel
theorem dX5_isStale_25 : decode cX5_isStale 25 = .ok (.ifCond .eq 42, 3) := by decide +kernel
theorem dX5_isStale_28 : decode cX5_isStale 28 = .ok (.aload_n 0, 1) := by decide +kernel
theorem dX5_isStale_29 : decode cX5_isStale 29 = .ok (.getfield 59, 3) := by decide +kernel
theorem dX5_isStale_32 : decode cX5_isStale 32 = .ok (.iload_n 1, 1) := by decide +kernel
theorem dX5_isStale_33 : decode cX5_isStale 33 = .ok (.iaload, 1) := by decide +kernel
theorem dX5_isStale_34 : decode cX5_isStale 34 = .ok (.ifCond .ge 33, 3) := by decide +kernel
theorem dX5_isStale_37 : decode cX5_isStale 37 = .ok (.aload_n 0, 1) := by decide +kernel
theorem dX5_isStale_38 : decode cX5_isStale 38 = .ok (.getfield 56, 3) := by decide +kernel
theorem dX5_isStale_41 : decode cX5_isStale 41 = .ok (.iload_n 1, 1) := by decide +kernel
theorem dX5_isStale_42 : decode cX5_isStale 42 = .ok (.iaload, 1) := by decide +kernel
theorem dX5_isStale_43 : decode cX5_isStale 43 = .ok (.aload_n 0, 1) := by decide +kernel
theorem dX5_isStale_44 : decode cX5_isStale 44 = .ok (.iload_n 2, 1) := by decide +kernel
theorem dX5_isStale_45 : decode cX5_isStale 45 = .ok (.aload_n 0, 1) := by decide +kernel
theorem dX5_isStale_46 : decode cX5_isStale 46 = .ok (.getfield 53, 3) := by decide +kernel
theorem dX5_isStale_49 : decode cX5_isStale 49 = .ok (.iload_n 1, 1) := by decide +kernel
theorem dX5_isStale_50 : decode cX5_isStale 50 = .ok (.iaload, 1) := by decide +kernel
theorem dX5_isStale_51 : decode cX5_isStale 51 = .ok (.aload_n 0, 1) := by decide +kernel
theorem dX5_isStale_52 : decode cX5_isStale 52 = .ok (.getfield 47, 3) := by decide +kernel
theorem dX5_isStale_55 : decode cX5_isStale 55 = .ok (.iload_n 1, 1) := by decide +kernel
theorem dX5_isStale_56 : decode cX5_isStale 56 = .ok (.iaload, 1) := by decide +kernel
theorem dX5_isStale_57 : decode cX5_isStale 57 = .ok (.invokevirtual 145, 3) := by decide +kernel
theorem dX5_isStale_60 : decode cX5_isStale 60 = .ok (.if_icmp .eq 7, 3) := by decide +kernel
theorem dX5_isStale_63 : decode cX5_isStale 63 = .ok (.iconst 1, 1) := by decide +kernel
theorem dX5_isStale_64 : decode cX5_isStale 64 = .ok (.goto 4, 3) := by decide +kernel
theorem dX5_isStale_67 : decode cX5_isStale 67 = .ok (.iconst 0, 1) := by decide +kernel
theorem dX5_isStale_68 : decode cX5_isStale 68 = .ok (.ireturn, 1) := by decide +kernel
theorem dX5_remake_0 : decode cX5_remake 0 = .ok (.aload_n 0, 1) := by decide +kernel
theorem dX5_remake_1 : decode cX5_remake 1 = .ok (.iload_n 1, 1) := by decide +kernel
theorem dX5_remake_2 : decode cX5_remake 2 = .ok (.invokevirtual 115, 3) := by decide +kernel
theorem dX5_remake_5 : decode cX5_remake 5 = .ok (.ifCond .eq 5, 3) := by decide +kernel
theorem dX5_remake_8 : decode cX5_remake 8 = .ok (.iconst (-1), 1) := by decide +kernel
theorem dX5_remake_9 : decode cX5_remake 9 = .ok (.ireturn, 1) := by decide +kernel
theorem dX5_remake_10 : decode cX5_remake 10 = .ok (.iload_n 2, 1) := by decide +kernel
theorem dX5_remake_11 : decode cX5_remake 11 = .ok (.iload_n 3, 1) := by decide +kernel
theorem dX5_remake_12 : decode cX5_remake 12 = .ok (.invokestatic 191, 3) := by decide +kernel
theorem dX5_remake_15 : decode cX5_remake 15 = .ok (.ifCond .ne 6, 3) := by decide +kernel
theorem dX5_remake_18 : decode cX5_remake 18 = .ok (.bipush (-2), 2) := by decide +kernel
theorem dX5_remake_20 : decode cX5_remake 20 = .ok (.ireturn, 1) := by decide +kernel
theorem dX5_remake_21 : decode cX5_remake 21 = .ok (.aload_n 0, 1) := by decide +kernel
theorem dX5_remake_22 : decode cX5_remake 22 = .ok (.iload_n 2, 1) := by decide +kernel
theorem dX5_remake_23 : decode cX5_remake 23 = .ok (.invokevirtual 181, 3) := by decide +kernel
theorem dX5_remake_26 : decode cX5_remake 26 = .ok (.ifCond .eq 6, 3) := by decide +kernel
theorem dX5_remake_29 : decode cX5_remake 29 = .ok (.bipush (-3), 2) := by decide +kernel
theorem dX5_remake_31 : decode cX5_remake 31 = .ok (.ireturn, 1) := by decide +kernel
theorem dX5_remake_32 : decode cX5_remake 32 = .ok (.aload_n 0, 1) := by decide +kernel
theorem dX5_remake_33 : decode cX5_remake 33 = .ok (.getfield 176, 3) := by decide +kernel
theorem dX5_remake_36 : decode cX5_remake 36 = .ok (.istore 4, 2) := by decide +kernel
theorem dX5_remake_38 : decode cX5_remake 38 = .ok (.iconst 0, 1) := by decide +kernel
theorem dX5_remake_39 : decode cX5_remake 39 = .ok (.istore 5, 2) := by decide +kernel
theorem dX5_remake_41 : decode cX5_remake 41 = .ok (.iconst 0, 1) := by decide +kernel
theorem dX5_remake_42 : decode cX5_remake 42 = .ok (.istore 6, 2) := by decide +kernel
theorem dX5_remake_44 : decode cX5_remake 44 = .ok (.iload 6, 2) := by decide +kernel
theorem dX5_remake_46 : decode cX5_remake 46 = .ok (.iload 4, 2) := by decide +kernel
theorem dX5_remake_48 : decode cX5_remake 48 = .ok (.if_icmp .ge 31, 3) := by decide +kernel
theorem dX5_remake_51 : decode cX5_remake 51 = .ok (.iload 5, 2) := by decide +kernel
theorem dX5_remake_53 : decode cX5_remake 53 = .ok (.aload_n 0, 1) := by decide +kernel
theorem dX5_remake_54 : decode cX5_remake 54 = .ok (.iload 6, 2) := by decide +kernel
theorem dX5_remake_56 : decode cX5_remake 56 = .ok (.iload_n 1, 1) := by decide +kernel
theorem dX5_remake_57 : decode cX5_remake 57 = .ok (.iload_n 2, 1) := by decide +kernel
theorem dX5_remake_58 : decode cX5_remake 58 = .ok (.iload_n 3, 1) := by decide +kernel
theorem dX5_remake_59 : decode cX5_remake 59 = .ok (.invokevirtual 195, 3) := by decide +kernel
theorem dX5_remake_62 : decode cX5_remake 62 = .ok (.ifCond .eq 7, 3) := by decide +kernel
theorem dX5_remake_65 : decode cX5_remake 65 = .ok (.iconst 1, 1) := by decide +kernel
theorem dX5_remake_66 : decode cX5_remake 66 = .ok (.goto 4, 3) := by decide +kernel
theorem dX5_remake_69 : decode cX5_remake 69 = .ok (.iconst 0, 1) := by decide +kernel
theorem dX5_remake_70 : decode cX5_remake 70 = .ok (.iadd, 1) := by decide +kernel
theorem dX5_remake_71 : decode cX5_remake 71 = .ok (.istore 5, 2) := by decide +kernel
theorem dX5_remake_73 : decode cX5_remake 73 = .ok (.iinc 6 1, 3) := by decide +kernel
theorem dX5_remake_76 : decode cX5_remake 76 = .ok (.goto (-32), 3) := by decide +kernel
theorem dX5_remake_79 : decode cX5_remake 79 = .ok (.iload 4, 2) := by decide +kernel
theorem dX5_remake_81 : decode cX5_remake 81 = .ok (.iload 5, 2) := by decide +kernel
theorem dX5_remake_83 : decode cX5_remake 83 = .ok (.iadd, 1) := by decide +kernel
theorem dX5_remake_84 : decode cX5_remake 84 = .ok (.bipush 40, 2) := by decide +kernel
theorem dX5_remake_86 : decode cX5_remake 86 = .ok (.if_icmp .le 6, 3) := by decide +kernel
theorem dX5_remake_89 : decode cX5_remake 89 = .ok (.bipush (-4), 2) := by decide +kernel
theorem dX5_remake_91 : decode cX5_remake 91 = .ok (.ireturn, 1) := by decide +kernel
theorem dX5_remake_92 : decode cX5_remake 92 = .ok (.iconst 0, 1) := by decide +kernel
theorem dX5_remake_93 : decode cX5_remake 93 = .ok (.istore 6, 2) := by decide +kernel
theorem dX5_remake_95 : decode cX5_remake 95 = .ok (.iload 6, 2) := by decide +kernel
theorem dX5_remake_97 : decode cX5_remake 97 = .ok (.iload 4, 2) := by decide +kernel
theorem dX5_remake_99 : decode cX5_remake 99 = .ok (.if_icmp .ge 63, 3) := by decide +kernel
theorem dX5_remake_102 : decode cX5_remake 102 = .ok (.aload_n 0, 1) := by decide +kernel
theorem dX5_remake_103 : decode cX5_remake 103 = .ok (.iload 6, 2) := by decide +kernel
theorem dX5_remake_105 : decode cX5_remake 105 = .ok (.iload_n 1, 1) := by decide +kernel
theorem dX5_remake_106 : decode cX5_remake 106 = .ok (.iload_n 2, 1) := by decide +kernel
theorem dX5_remake_107 : decode cX5_remake 107 = .ok (.iload_n 3, 1) := by decide +kernel
theorem dX5_remake_108 : decode cX5_remake 108 = .ok (.invokevirtual 195, 3) := by decide +kernel
theorem dX5_remake_111 : decode cX5_remake 111 = .ok (.ifCond .eq 45, 3) := by decide +kernel
theorem dX5_remake_114 : decode cX5_remake 114 = .ok (.aload_n 0, 1) := by decide +kernel
theorem dX5_remake_115 : decode cX5_remake 115 = .ok (.getfield 59, 3) := by decide +kernel
theorem dX5_remake_118 : decode cX5_remake 118 = .ok (.iload 6, 2) := by decide +kernel
theorem dX5_remake_120 : decode cX5_remake 120 = .ok (.aload_n 0, 1) := by decide +kernel
theorem dX5_remake_121 : decode cX5_remake 121 = .ok (.getfield 176, 3) := by decide +kernel
theorem dX5_remake_124 : decode cX5_remake 124 = .ok (.iastore, 1) := by decide +kernel
theorem dX5_remake_125 : decode cX5_remake 125 = .ok (.aload_n 0, 1) := by decide +kernel
theorem dX5_remake_126 : decode cX5_remake 126 = .ok (.iconst 2, 1) := by decide +kernel
theorem dX5_remake_127 : decode cX5_remake 127 = .ok (.iload_n 1, 1) := by decide +kernel
theorem dX5_remake_128 : decode cX5_remake 128 = .ok (.aload_n 0, 1) := by decide +kernel
theorem dX5_remake_129 : decode cX5_remake 129 = .ok (.getfield 47, 3) := by decide +kernel
theorem dX5_remake_132 : decode cX5_remake 132 = .ok (.iload 6, 2) := by decide +kernel
theorem dX5_remake_134 : decode cX5_remake 134 = .ok (.iaload, 1) := by decide +kernel
theorem dX5_remake_135 : decode cX5_remake 135 = .ok (.aload_n 0, 1) := by decide +kernel
theorem dX5_remake_136 : decode cX5_remake 136 = .ok (.getfield 50, 3) := by decide +kernel
theorem dX5_remake_139 : decode cX5_remake 139 = .ok (.iload 6, 2) := by decide +kernel
theorem dX5_remake_141 : decode cX5_remake 141 = .ok (.iaload, 1) := by decide +kernel
theorem dX5_remake_142 : decode cX5_remake 142 = .ok (.aload_n 0, 1) := by decide +kernel
theorem dX5_remake_143 : decode cX5_remake 143 = .ok (.getfield 53, 3) := by decide +kernel
theorem dX5_remake_146 : decode cX5_remake 146 = .ok (.iload 6, 2) := by decide +kernel
theorem dX5_remake_148 : decode cX5_remake 148 = .ok (.iaload, 1) := by decide +kernel
theorem dX5_remake_149 : decode cX5_remake 149 = .ok (.iload 6, 2) := by decide +kernel
theorem dX5_remake_151 : decode cX5_remake 151 = .ok (.invokevirtual 184, 3) := by decide +kernel
theorem dX5_remake_154 : decode cX5_remake 154 = .ok (.istore 7, 2) := by decide +kernel
theorem dX5_remake_156 : decode cX5_remake 156 = .ok (.iinc 6 1, 3) := by decide +kernel
theorem dX5_remake_159 : decode cX5_remake 159 = .ok (.goto (-64), 3) := by decide +kernel
theorem dX5_remake_162 : decode cX5_remake 162 = .ok (.iload 5, 2) := by decide +kernel
theorem dX5_remake_164 : decode cX5_remake 164 = .ok (.ireturn, 1) := by decide +kernel
theorem dX5_ticketed_0 : decode cX5_ticketed 0 = .ok (.aload_n 0, 1) := by decide +kernel
theorem dX5_ticketed_1 : decode cX5_ticketed 1 = .ok (.iload_n 1, 1) := by decide +kernel
theorem dX5_ticketed_2 : decode cX5_ticketed 2 = .ok (.invokevirtual 188, 3) := by decide +kernel
theorem dX5_ticketed_5 : decode cX5_ticketed 5 = .ok (.ifCond .eq 5, 3) := by decide +kernel
theorem dX5_ticketed_8 : decode cX5_ticketed 8 = .ok (.iconst (-1), 1) := by decide +kernel
theorem dX5_ticketed_9 : decode cX5_ticketed 9 = .ok (.ireturn, 1) := by decide +kernel
theorem dX5_ticketed_10 : decode cX5_ticketed 10 = .ok (.iload_n 2, 1) := by decide +kernel
theorem dX5_ticketed_11 : decode cX5_ticketed 11 = .ok (.tableswitch 101 0 7 #[45, 52, 59, 66, 73, 80, 87, 94], 45) := by decide +kernel
theorem dX5_ticketed_56 : decode cX5_ticketed 56 = .ok (.aload_n 0, 1) := by decide +kernel
theorem dX5_ticketed_57 : decode cX5_ticketed 57 = .ok (.getfield 41, 3) := by decide +kernel
theorem dX5_ticketed_60 : decode cX5_ticketed 60 = .ok (.iload_n 1, 1) := by decide +kernel
theorem dX5_ticketed_61 : decode cX5_ticketed 61 = .ok (.iaload, 1) := by decide +kernel
theorem dX5_ticketed_62 : decode cX5_ticketed 62 = .ok (.ireturn, 1) := by decide +kernel
theorem dX5_ticketed_63 : decode cX5_ticketed 63 = .ok (.aload_n 0, 1) := by decide +kernel
theorem dX5_ticketed_64 : decode cX5_ticketed 64 = .ok (.getfield 44, 3) := by decide +kernel
theorem dX5_ticketed_67 : decode cX5_ticketed 67 = .ok (.iload_n 1, 1) := by decide +kernel
theorem dX5_ticketed_68 : decode cX5_ticketed 68 = .ok (.iaload, 1) := by decide +kernel
theorem dX5_ticketed_69 : decode cX5_ticketed 69 = .ok (.ireturn, 1) := by decide +kernel
theorem dX5_ticketed_70 : decode cX5_ticketed 70 = .ok (.aload_n 0, 1) := by decide +kernel
theorem dX5_ticketed_71 : decode cX5_ticketed 71 = .ok (.getfield 47, 3) := by decide +kernel
theorem dX5_ticketed_74 : decode cX5_ticketed 74 = .ok (.iload_n 1, 1) := by decide +kernel
theorem dX5_ticketed_75 : decode cX5_ticketed 75 = .ok (.iaload, 1) := by decide +kernel
theorem dX5_ticketed_76 : decode cX5_ticketed 76 = .ok (.ireturn, 1) := by decide +kernel
theorem dX5_ticketed_77 : decode cX5_ticketed 77 = .ok (.aload_n 0, 1) := by decide +kernel
theorem dX5_ticketed_78 : decode cX5_ticketed 78 = .ok (.getfield 50, 3) := by decide +kernel
theorem dX5_ticketed_81 : decode cX5_ticketed 81 = .ok (.iload_n 1, 1) := by decide +kernel
theorem dX5_ticketed_82 : decode cX5_ticketed 82 = .ok (.iaload, 1) := by decide +kernel
theorem dX5_ticketed_83 : decode cX5_ticketed 83 = .ok (.ireturn, 1) := by decide +kernel
theorem dX5_ticketed_84 : decode cX5_ticketed 84 = .ok (.aload_n 0, 1) := by decide +kernel
theorem dX5_ticketed_85 : decode cX5_ticketed 85 = .ok (.getfield 53, 3) := by decide +kernel
theorem dX5_ticketed_88 : decode cX5_ticketed 88 = .ok (.iload_n 1, 1) := by decide +kernel
theorem dX5_ticketed_89 : decode cX5_ticketed 89 = .ok (.iaload, 1) := by decide +kernel
theorem dX5_ticketed_90 : decode cX5_ticketed 90 = .ok (.ireturn, 1) := by decide +kernel
theorem dX5_ticketed_91 : decode cX5_ticketed 91 = .ok (.aload_n 0, 1) := by decide +kernel
theorem dX5_ticketed_92 : decode cX5_ticketed 92 = .ok (.getfield 56, 3) := by decide +kernel
theorem dX5_ticketed_95 : decode cX5_ticketed 95 = .ok (.iload_n 1, 1) := by decide +kernel
theorem dX5_ticketed_96 : decode cX5_ticketed 96 = .ok (.iaload, 1) := by decide +kernel
theorem dX5_ticketed_97 : decode cX5_ticketed 97 = .ok (.ireturn, 1) := by decide +kernel
theorem dX5_ticketed_98 : decode cX5_ticketed 98 = .ok (.aload_n 0, 1) := by decide +kernel
theorem dX5_ticketed_99 : decode cX5_ticketed 99 = .ok (.getfield 59, 3) := by decide +kernel
theorem dX5_ticketed_102 : decode cX5_ticketed 102 = .ok (.iload_n 1, 1) := by decide +kernel
theorem dX5_ticketed_103 : decode cX5_ticketed 103 = .ok (.iaload, 1) := by decide +kernel
theorem dX5_ticketed_104 : decode cX5_ticketed 104 = .ok (.ireturn, 1) := by decide +kernel
theorem dX5_ticketed_105 : decode cX5_ticketed 105 = .ok (.aload_n 0, 1) := by decide +kernel
theorem dX5_ticketed_106 : decode cX5_ticketed 106 = .ok (.getfield 62, 3) := by decide +kernel
theorem dX5_ticketed_109 : decode cX5_ticketed 109 = .ok (.iload_n 1, 1) := by decide +kernel
theorem dX5_ticketed_110 : decode cX5_ticketed 110 = .ok (.iaload, 1) := by decide +kernel
theorem dX5_ticketed_111 : decode cX5_ticketed 111 = .ok (.ireturn, 1) := by decide +kernel
theorem dX5_ticketed_112 : decode cX5_ticketed 112 = .ok (.bipush (-2), 2) := by decide +kernel
theorem dX5_ticketed_114 : decode cX5_ticketed 114 = .ok (.ireturn, 1) := by decide +kernel
theorem dX5_volumeOf_0 : decode cX5_volumeOf 0 = .ok (.ldc2_w 199, 3) := by decide +kernel
theorem dX5_volumeOf_3 : decode cX5_volumeOf 3 = .ok (.aload_n 0, 1) := by decide +kernel
theorem dX5_volumeOf_4 : decode cX5_volumeOf 4 = .ok (.getfield 50, 3) := by decide +kernel
theorem dX5_volumeOf_7 : decode cX5_volumeOf 7 = .ok (.iload_n 1, 1) := by decide +kernel
theorem dX5_volumeOf_8 : decode cX5_volumeOf 8 = .ok (.iaload, 1) := by decide +kernel
theorem dX5_volumeOf_9 : decode cX5_volumeOf 9 = .ok (.i2l, 1) := by decide +kernel
theorem dX5_volumeOf_10 : decode cX5_volumeOf 10 = .ok (.lmul, 1) := by decide +kernel
theorem dX5_volumeOf_11 : decode cX5_volumeOf 11 = .ok (.aload_n 0, 1) := by decide +kernel
theorem dX5_volumeOf_12 : decode cX5_volumeOf 12 = .ok (.getfield 56, 3) := by decide +kernel
theorem dX5_volumeOf_15 : decode cX5_volumeOf 15 = .ok (.iload_n 1, 1) := by decide +kernel
theorem dX5_volumeOf_16 : decode cX5_volumeOf 16 = .ok (.iaload, 1) := by decide +kernel
theorem dX5_volumeOf_17 : decode cX5_volumeOf 17 = .ok (.i2l, 1) := by decide +kernel
theorem dX5_volumeOf_18 : decode cX5_volumeOf 18 = .ok (.lmul, 1) := by decide +kernel
theorem dX5_volumeOf_19 : decode cX5_volumeOf 19 = .ok (.aload_n 0, 1) := by decide +kernel
theorem dX5_volumeOf_20 : decode cX5_volumeOf 20 = .ok (.getfield 7, 3) := by decide +kernel
theorem dX5_volumeOf_23 : decode cX5_volumeOf 23 = .ok (.aload_n 0, 1) := by decide +kernel
theorem dX5_volumeOf_24 : decode cX5_volumeOf 24 = .ok (.getfield 44, 3) := by decide +kernel
theorem dX5_volumeOf_27 : decode cX5_volumeOf 27 = .ok (.iload_n 1, 1) := by decide +kernel
theorem dX5_volumeOf_28 : decode cX5_volumeOf 28 = .ok (.iaload, 1) := by decide +kernel
theorem dX5_volumeOf_29 : decode cX5_volumeOf 29 = .ok (.iaload, 1) := by decide +kernel
theorem dX5_volumeOf_30 : decode cX5_volumeOf 30 = .ok (.i2l, 1) := by decide +kernel
theorem dX5_volumeOf_31 : decode cX5_volumeOf 31 = .ok (.invokestatic 172, 3) := by decide +kernel
theorem dX5_volumeOf_34 : decode cX5_volumeOf 34 = .ok (.lreturn, 1) := by decide +kernel
theorem dX5_volume_0 : decode cX5_volume 0 = .ok (.aload_n 0, 1) := by decide +kernel
theorem dX5_volume_1 : decode cX5_volume 1 = .ok (.iload_n 1, 1) := by decide +kernel
theorem dX5_volume_2 : decode cX5_volume 2 = .ok (.invokevirtual 188, 3) := by decide +kernel
theorem dX5_volume_5 : decode cX5_volume 5 = .ok (.ifCond .eq 9, 3) := by decide +kernel
theorem dX5_volume_8 : decode cX5_volume 8 = .ok (.invokestatic 92, 3) := by decide +kernel
theorem dX5_volume_11 : decode cX5_volume 11 = .ok (.goto 8, 3) := by decide +kernel
theorem dX5_volume_14 : decode cX5_volume 14 = .ok (.aload_n 0, 1) := by decide +kernel
theorem dX5_volume_15 : decode cX5_volume 15 = .ok (.iload_n 1, 1) := by decide +kernel
theorem dX5_volume_16 : decode cX5_volume 16 = .ok (.invokevirtual 201, 3) := by decide +kernel
theorem dX5_volume_19 : decode cX5_volume 19 = .ok (.lreturn, 1) := by decide +kernel
theorem dX5_sumOf_0 : decode cX5_sumOf 0 = .ok (.lconst 0, 1) := by decide +kernel
theorem dX5_sumOf_1 : decode cX5_sumOf 1 = .ok (.lstore 4, 2) := by decide +kernel
theorem dX5_sumOf_3 : decode cX5_sumOf 3 = .ok (.iconst 0, 1) := by decide +kernel
theorem dX5_sumOf_4 : decode cX5_sumOf 4 = .ok (.istore 6, 2) := by decide +kernel
theorem dX5_sumOf_6 : decode cX5_sumOf 6 = .ok (.iload 6, 2) := by decide +kernel
theorem dX5_sumOf_8 : decode cX5_sumOf 8 = .ok (.aload_n 0, 1) := by decide +kernel
theorem dX5_sumOf_9 : decode cX5_sumOf 9 = .ok (.getfield 176, 3) := by decide +kernel
theorem dX5_sumOf_12 : decode cX5_sumOf 12 = .ok (.if_icmp .ge 63, 3) := by decide +kernel
theorem dX5_sumOf_15 : decode cX5_sumOf 15 = .ok (.lload 4, 2) := by decide +kernel
theorem dX5_sumOf_17 : decode cX5_sumOf 17 = .ok (.aload_n 0, 1) := by decide +kernel
theorem dX5_sumOf_18 : decode cX5_sumOf 18 = .ok (.getfield 44, 3) := by decide +kernel
theorem dX5_sumOf_21 : decode cX5_sumOf 21 = .ok (.iload 6, 2) := by decide +kernel
theorem dX5_sumOf_23 : decode cX5_sumOf 23 = .ok (.iaload, 1) := by decide +kernel
theorem dX5_sumOf_24 : decode cX5_sumOf 24 = .ok (.iload_n 1, 1) := by decide +kernel
theorem dX5_sumOf_25 : decode cX5_sumOf 25 = .ok (.if_icmp .ne 40, 3) := by decide +kernel
theorem dX5_sumOf_28 : decode cX5_sumOf 28 = .ok (.aload_n 0, 1) := by decide +kernel
theorem dX5_sumOf_29 : decode cX5_sumOf 29 = .ok (.getfield 47, 3) := by decide +kernel
theorem dX5_sumOf_32 : decode cX5_sumOf 32 = .ok (.iload 6, 2) := by decide +kernel
theorem dX5_sumOf_34 : decode cX5_sumOf 34 = .ok (.iaload, 1) := by decide +kernel
theorem dX5_sumOf_35 : decode cX5_sumOf 35 = .ok (.i2l, 1) := by decide +kernel
theorem dX5_sumOf_36 : decode cX5_sumOf 36 = .ok (.iload_n 2, 1) := by decide +kernel
theorem dX5_sumOf_37 : decode cX5_sumOf 37 = .ok (.i2l, 1) := by decide +kernel
theorem dX5_sumOf_38 : decode cX5_sumOf 38 = .ok (.iload_n 3, 1) := by decide +kernel
theorem dX5_sumOf_39 : decode cX5_sumOf 39 = .ok (.i2l, 1) := by decide +kernel
theorem dX5_sumOf_40 : decode cX5_sumOf 40 = .ok (.invokestatic 101, 3) := by decide +kernel
theorem dX5_sumOf_43 : decode cX5_sumOf 43 = .ok (.ifCond .eq 22, 3) := by decide +kernel
theorem dX5_sumOf_46 : decode cX5_sumOf 46 = .ok (.aload_n 0, 1) := by decide +kernel
theorem dX5_sumOf_47 : decode cX5_sumOf 47 = .ok (.getfield 59, 3) := by decide +kernel
theorem dX5_sumOf_50 : decode cX5_sumOf 50 = .ok (.iload 6, 2) := by decide +kernel
theorem dX5_sumOf_52 : decode cX5_sumOf 52 = .ok (.iaload, 1) := by decide +kernel
theorem dX5_sumOf_53 : decode cX5_sumOf 53 = .ok (.ifCond .ge 12, 3) := by decide +kernel
theorem dX5_sumOf_56 : decode cX5_sumOf 56 = .ok (.aload_n 0, 1) := by decide +kernel
theorem dX5_sumOf_57 : decode cX5_sumOf 57 = .ok (.iload 6, 2) := by decide +kernel
theorem dX5_sumOf_59 : decode cX5_sumOf 59 = .ok (.invokevirtual 201, 3) := by decide +kernel
theorem dX5_sumOf_62 : decode cX5_sumOf 62 = .ok (.goto 4, 3) := by decide +kernel
theorem dX5_sumOf_65 : decode cX5_sumOf 65 = .ok (.lconst 0, 1) := by decide +kernel
theorem dX5_sumOf_66 : decode cX5_sumOf 66 = .ok (.ladd, 1) := by decide +kernel
theorem dX5_sumOf_67 : decode cX5_sumOf 67 = .ok (.lstore 4, 2) := by decide +kernel
theorem dX5_sumOf_69 : decode cX5_sumOf 69 = .ok (.iinc 6 1, 3) := by decide +kernel
theorem dX5_sumOf_72 : decode cX5_sumOf 72 = .ok (.goto (-66), 3) := by decide +kernel
theorem dX5_sumOf_75 : decode cX5_sumOf 75 = .ok (.lload 4, 2) := by decide +kernel
theorem dX5_sumOf_77 : decode cX5_sumOf 77 = .ok (.lreturn, 1) := by decide +kernel
theorem dX5_sum_0 : decode cX5_sum 0 = .ok (.aload_n 0, 1) := by decide +kernel
theorem dX5_sum_1 : decode cX5_sum 1 = .ok (.iload_n 1, 1) := by decide +kernel
theorem dX5_sum_2 : decode cX5_sum 2 = .ok (.invokevirtual 115, 3) := by decide +kernel
theorem dX5_sum_5 : decode cX5_sum 5 = .ok (.ifCond .ne 11, 3) := by decide +kernel
theorem dX5_sum_8 : decode cX5_sum 8 = .ok (.iload_n 2, 1) := by decide +kernel
theorem dX5_sum_9 : decode cX5_sum 9 = .ok (.iload_n 3, 1) := by decide +kernel
theorem dX5_sum_10 : decode cX5_sum 10 = .ok (.invokestatic 191, 3) := by decide +kernel
theorem dX5_sum_13 : decode cX5_sum 13 = .ok (.ifCond .ne 9, 3) := by decide +kernel
theorem dX5_sum_16 : decode cX5_sum 16 = .ok (.invokestatic 92, 3) := by decide +kernel
theorem dX5_sum_19 : decode cX5_sum 19 = .ok (.goto 10, 3) := by decide +kernel
theorem dX5_sum_22 : decode cX5_sum 22 = .ok (.aload_n 0, 1) := by decide +kernel
theorem dX5_sum_23 : decode cX5_sum 23 = .ok (.iload_n 1, 1) := by decide +kernel
theorem dX5_sum_24 : decode cX5_sum 24 = .ok (.iload_n 2, 1) := by decide +kernel
theorem dX5_sum_25 : decode cX5_sum 25 = .ok (.iload_n 3, 1) := by decide +kernel
theorem dX5_sum_26 : decode cX5_sum 26 = .ok (.invokevirtual 205, 3) := by decide +kernel
theorem dX5_sum_29 : decode cX5_sum 29 = .ok (.lreturn, 1) := by decide +kernel
theorem dX5_shut_0 : decode cX5_shut 0 = .ok (.iload_n 1, 1) := by decide +kernel
theorem dX5_shut_1 : decode cX5_shut 1 = .ok (.invokestatic 122, 3) := by decide +kernel
theorem dX5_shut_4 : decode cX5_shut 4 = .ok (.ifCond .eq 11, 3) := by decide +kernel
theorem dX5_shut_7 : decode cX5_shut 7 = .ok (.iload_n 1, 1) := by decide +kernel
theorem dX5_shut_8 : decode cX5_shut 8 = .ok (.aload_n 0, 1) := by decide +kernel
theorem dX5_shut_9 : decode cX5_shut 9 = .ok (.getfield 80, 3) := by decide +kernel
theorem dX5_shut_12 : decode cX5_shut 12 = .ok (.if_icmp .ge 6, 3) := by decide +kernel
theorem dX5_shut_15 : decode cX5_shut 15 = .ok (.bipush (-2), 2) := by decide +kernel
theorem dX5_shut_17 : decode cX5_shut 17 = .ok (.ireturn, 1) := by decide +kernel
theorem dX5_shut_18 : decode cX5_shut 18 = .ok (.aload_n 0, 1) := by decide +kernel
theorem dX5_shut_19 : decode cX5_shut 19 = .ok (.getfield 80, 3) := by decide +kernel
theorem dX5_shut_22 : decode cX5_shut 22 = .ok (.istore_n 2, 1) := by decide +kernel
theorem dX5_shut_23 : decode cX5_shut 23 = .ok (.aload_n 0, 1) := by decide +kernel
theorem dX5_shut_24 : decode cX5_shut 24 = .ok (.iload_n 1, 1) := by decide +kernel
theorem dX5_shut_25 : decode cX5_shut 25 = .ok (.putfield 80, 3) := by decide +kernel
theorem dX5_shut_28 : decode cX5_shut 28 = .ok (.iload_n 2, 1) := by decide +kernel
theorem dX5_shut_29 : decode cX5_shut 29 = .ok (.ireturn, 1) := by decide +kernel
theorem dX5_noLine_0 : decode cX5_noLine 0 = .ok (.iload_n 0, 1) := by decide +kernel
theorem dX5_noLine_1 : decode cX5_noLine 1 = .ok (.i2l, 1) := by decide +kernel
theorem dX5_noLine_2 : decode cX5_noLine 2 = .ok (.lconst 0, 1) := by decide +kernel
theorem dX5_noLine_3 : decode cX5_noLine 3 = .ok (.ldc2_w 164, 3) := by decide +kernel
theorem dX5_noLine_6 : decode cX5_noLine 6 = .ok (.invokestatic 101, 3) := by decide +kernel
theorem dX5_noLine_9 : decode cX5_noLine 9 = .ok (.ifCond .ne 7, 3) := by decide +kernel
theorem dX5_noLine_12 : decode cX5_noLine 12 = .ok (.iconst 1, 1) := by decide +kernel
theorem dX5_noLine_13 : decode cX5_noLine 13 = .ok (.goto 4, 3) := by decide +kernel
theorem dX5_noLine_16 : decode cX5_noLine 16 = .ok (.iconst 0, 1) := by decide +kernel
theorem dX5_noLine_17 : decode cX5_noLine 17 = .ok (.ireturn, 1) := by decide +kernel
theorem dX5_line_0 : decode cX5_line 0 = .ok (.iload_n 1, 1) := by decide +kernel
theorem dX5_line_1 : decode cX5_line 1 = .ok (.invokestatic 209, 3) := by decide +kernel
theorem dX5_line_4 : decode cX5_line 4 = .ok (.ifCond .ne 11, 3) := by decide +kernel
theorem dX5_line_7 : decode cX5_line 7 = .ok (.aload_n 0, 1) := by decide +kernel
theorem dX5_line_8 : decode cX5_line 8 = .ok (.iload_n 2, 1) := by decide +kernel
theorem dX5_line_9 : decode cX5_line 9 = .ok (.invokevirtual 115, 3) := by decide +kernel
theorem dX5_line_12 : decode cX5_line 12 = .ok (.ifCond .eq 5, 3) := by decide +kernel
theorem dX5_line_15 : decode cX5_line 15 = .ok (.iconst (-1), 1) := by decide +kernel
theorem dX5_line_16 : decode cX5_line 16 = .ok (.ireturn, 1) := by decide +kernel
theorem dX5_line_17 : decode cX5_line 17 = .ok (.iload_n 3, 1) := by decide +kernel
theorem dX5_line_18 : decode cX5_line 18 = .ok (.i2l, 1) := by decide +kernel
theorem dX5_line_19 : decode cX5_line 19 = .ok (.ldc2_w 212, 3) := by decide +kernel
theorem dX5_line_22 : decode cX5_line 22 = .ok (.lconst 1, 1) := by decide +kernel
theorem dX5_line_23 : decode cX5_line 23 = .ok (.invokestatic 101, 3) := by decide +kernel
theorem dX5_line_26 : decode cX5_line 26 = .ok (.ifCond .ne 6, 3) := by decide +kernel
theorem dX5_line_29 : decode cX5_line 29 = .ok (.bipush (-2), 2) := by decide +kernel
theorem dX5_line_31 : decode cX5_line 31 = .ok (.ireturn, 1) := by decide +kernel
theorem dX5_line_32 : decode cX5_line 32 = .ok (.aload_n 0, 1) := by decide +kernel
theorem dX5_line_33 : decode cX5_line 33 = .ok (.getfield 65, 3) := by decide +kernel
theorem dX5_line_36 : decode cX5_line 36 = .ok (.bipush 6, 2) := by decide +kernel
theorem dX5_line_38 : decode cX5_line 38 = .ok (.iload_n 1, 1) := by decide +kernel
theorem dX5_line_39 : decode cX5_line 39 = .ok (.imul, 1) := by decide +kernel
theorem dX5_line_40 : decode cX5_line 40 = .ok (.iload_n 2, 1) := by decide +kernel
theorem dX5_line_41 : decode cX5_line 41 = .ok (.iadd, 1) := by decide +kernel
theorem dX5_line_42 : decode cX5_line 42 = .ok (.iaload, 1) := by decide +kernel
theorem dX5_line_43 : decode cX5_line 43 = .ok (.iload_n 3, 1) := by decide +kernel
theorem dX5_line_44 : decode cX5_line 44 = .ok (.if_icmp .eq 7, 3) := by decide +kernel
theorem dX5_line_47 : decode cX5_line 47 = .ok (.iconst 1, 1) := by decide +kernel
theorem dX5_line_48 : decode cX5_line 48 = .ok (.goto 4, 3) := by decide +kernel
theorem dX5_line_51 : decode cX5_line 51 = .ok (.iconst 0, 1) := by decide +kernel
theorem dX5_line_52 : decode cX5_line 52 = .ok (.istore 4, 2) := by decide +kernel
theorem dX5_line_54 : decode cX5_line 54 = .ok (.aload_n 0, 1) := by decide +kernel
theorem dX5_line_55 : decode cX5_line 55 = .ok (.getfield 65, 3) := by decide +kernel
theorem dX5_line_58 : decode cX5_line 58 = .ok (.bipush 6, 2) := by decide +kernel
theorem dX5_line_60 : decode cX5_line 60 = .ok (.iload_n 1, 1) := by decide +kernel
theorem dX5_line_61 : decode cX5_line 61 = .ok (.imul, 1) := by decide +kernel
theorem dX5_line_62 : decode cX5_line 62 = .ok (.iload_n 2, 1) := by decide +kernel
theorem dX5_line_63 : decode cX5_line 63 = .ok (.iadd, 1) := by decide +kernel
theorem dX5_line_64 : decode cX5_line 64 = .ok (.iload_n 3, 1) := by decide +kernel
theorem dX5_line_65 : decode cX5_line 65 = .ok (.iastore, 1) := by decide +kernel
theorem dX5_line_66 : decode cX5_line 66 = .ok (.iload 4, 2) := by decide +kernel
theorem dX5_line_68 : decode cX5_line 68 = .ok (.ifCond .eq 7, 3) := by decide +kernel
theorem dX5_line_71 : decode cX5_line 71 = .ok (.iconst 1, 1) := by decide +kernel
theorem dX5_line_72 : decode cX5_line 72 = .ok (.goto 4, 3) := by decide +kernel
theorem dX5_line_75 : decode cX5_line 75 = .ok (.iconst 0, 1) := by decide +kernel
theorem dX5_line_76 : decode cX5_line 76 = .ok (.ireturn, 1) := by decide +kernel
theorem dX5_lined_0 : decode cX5_lined 0 = .ok (.iload_n 1, 1) := by decide +kernel
theorem dX5_lined_1 : decode cX5_lined 1 = .ok (.invokestatic 209, 3) := by decide +kernel
theorem dX5_lined_4 : decode cX5_lined 4 = .ok (.ifCond .ne 11, 3) := by decide +kernel
theorem dX5_lined_7 : decode cX5_lined 7 = .ok (.aload_n 0, 1) := by decide +kernel
theorem dX5_lined_8 : decode cX5_lined 8 = .ok (.iload_n 2, 1) := by decide +kernel
theorem dX5_lined_9 : decode cX5_lined 9 = .ok (.invokevirtual 115, 3) := by decide +kernel
theorem dX5_lined_12 : decode cX5_lined 12 = .ok (.ifCond .eq 7, 3) := by decide +kernel
theorem dX5_lined_15 : decode cX5_lined 15 = .ok (.iconst (-1), 1) := by decide +kernel
theorem dX5_lined_16 : decode cX5_lined 16 = .ok (.goto 17, 3) := by decide +kernel
theorem dX5_lined_19 : decode cX5_lined 19 = .ok (.bipush 10, 2) := by decide +kernel
theorem dX5_lined_21 : decode cX5_lined 21 = .ok (.aload_n 0, 1) := by decide +kernel
theorem dX5_lined_22 : decode cX5_lined 22 = .ok (.getfield 65, 3) := by decide +kernel
theorem dX5_lined_25 : decode cX5_lined 25 = .ok (.bipush 6, 2) := by decide +kernel
theorem dX5_lined_27 : decode cX5_lined 27 = .ok (.iload_n 1, 1) := by decide +kernel
theorem dX5_lined_28 : decode cX5_lined 28 = .ok (.imul, 1) := by decide +kernel
theorem dX5_lined_29 : decode cX5_lined 29 = .ok (.iload_n 2, 1) := by decide +kernel
theorem dX5_lined_30 : decode cX5_lined 30 = .ok (.iadd, 1) := by decide +kernel
theorem dX5_lined_31 : decode cX5_lined 31 = .ok (.iaload, 1) := by decide +kernel
theorem dX5_lined_32 : decode cX5_lined 32 = .ok (.iadd, 1) := by decide +kernel
theorem dX5_lined_33 : decode cX5_lined 33 = .ok (.ireturn, 1) := by decide +kernel
theorem dX5_end_0 : decode cX5_end 0 = .ok (.aload_n 0, 1) := by decide +kernel
theorem dX5_end_1 : decode cX5_end 1 = .ok (.iload_n 1, 1) := by decide +kernel
theorem dX5_end_2 : decode cX5_end 2 = .ok (.invokevirtual 115, 3) := by decide +kernel
theorem dX5_end_5 : decode cX5_end 5 = .ok (.ifCond .eq 5, 3) := by decide +kernel
theorem dX5_end_8 : decode cX5_end 8 = .ok (.iconst (-1), 1) := by decide +kernel
theorem dX5_end_9 : decode cX5_end 9 = .ok (.ireturn, 1) := by decide +kernel
theorem dX5_end_10 : decode cX5_end 10 = .ok (.iload_n 2, 1) := by decide +kernel
theorem dX5_end_11 : decode cX5_end 11 = .ok (.i2l, 1) := by decide +kernel
theorem dX5_end_12 : decode cX5_end 12 = .ok (.lconst 0, 1) := by decide +kernel
theorem dX5_end_13 : decode cX5_end 13 = .ok (.ldc2_w 214, 3) := by decide +kernel
theorem dX5_end_16 : decode cX5_end 16 = .ok (.invokestatic 101, 3) := by decide +kernel
theorem dX5_end_19 : decode cX5_end 19 = .ok (.ifCond .ne 6, 3) := by decide +kernel
theorem dX5_end_22 : decode cX5_end 22 = .ok (.bipush (-2), 2) := by decide +kernel
theorem dX5_end_24 : decode cX5_end 24 = .ok (.ireturn, 1) := by decide +kernel
theorem dX5_end_25 : decode cX5_end 25 = .ok (.aload_n 0, 1) := by decide +kernel
theorem dX5_end_26 : decode cX5_end 26 = .ok (.getfield 25, 3) := by decide +kernel
theorem dX5_end_29 : decode cX5_end 29 = .ok (.iload_n 1, 1) := by decide +kernel
theorem dX5_end_30 : decode cX5_end 30 = .ok (.iaload, 1) := by decide +kernel
theorem dX5_end_31 : decode cX5_end 31 = .ok (.istore_n 3, 1) := by decide +kernel
theorem dX5_end_32 : decode cX5_end 32 = .ok (.aload_n 0, 1) := by decide +kernel
theorem dX5_end_33 : decode cX5_end 33 = .ok (.getfield 25, 3) := by decide +kernel
theorem dX5_end_36 : decode cX5_end 36 = .ok (.iload_n 1, 1) := by decide +kernel
theorem dX5_end_37 : decode cX5_end 37 = .ok (.iload_n 2, 1) := by decide +kernel
theorem dX5_end_38 : decode cX5_end 38 = .ok (.iastore, 1) := by decide +kernel
theorem dX5_end_39 : decode cX5_end 39 = .ok (.iload_n 3, 1) := by decide +kernel
theorem dX5_end_40 : decode cX5_end 40 = .ok (.ireturn, 1) := by decide +kernel
theorem dX5_imbalance_0 : decode cX5_imbalance 0 = .ok (.lconst 0, 1) := by decide +kernel
theorem dX5_imbalance_1 : decode cX5_imbalance 1 = .ok (.lstore 4, 2) := by decide +kernel
theorem dX5_imbalance_3 : decode cX5_imbalance 3 = .ok (.iconst 0, 1) := by decide +kernel
theorem dX5_imbalance_4 : decode cX5_imbalance 4 = .ok (.istore 6, 2) := by decide +kernel
theorem dX5_imbalance_6 : decode cX5_imbalance 6 = .ok (.iload 6, 2) := by decide +kernel
theorem dX5_imbalance_8 : decode cX5_imbalance 8 = .ok (.aload_n 0, 1) := by decide +kernel
theorem dX5_imbalance_9 : decode cX5_imbalance 9 = .ok (.getfield 98, 3) := by decide +kernel
theorem dX5_imbalance_12 : decode cX5_imbalance 12 = .ok (.if_icmp .ge 36, 3) := by decide +kernel
theorem dX5_imbalance_15 : decode cX5_imbalance 15 = .ok (.lload 4, 2) := by decide +kernel
theorem dX5_imbalance_17 : decode cX5_imbalance 17 = .ok (.aload_n 0, 1) := by decide +kernel
theorem dX5_imbalance_18 : decode cX5_imbalance 18 = .ok (.getfield 65, 3) := by decide +kernel
theorem dX5_imbalance_21 : decode cX5_imbalance 21 = .ok (.bipush 6, 2) := by decide +kernel
theorem dX5_imbalance_23 : decode cX5_imbalance 23 = .ok (.iload_n 1, 1) := by decide +kernel
theorem dX5_imbalance_24 : decode cX5_imbalance 24 = .ok (.imul, 1) := by decide +kernel
theorem dX5_imbalance_25 : decode cX5_imbalance 25 = .ok (.iload 6, 2) := by decide +kernel
theorem dX5_imbalance_27 : decode cX5_imbalance 27 = .ok (.iadd, 1) := by decide +kernel
theorem dX5_imbalance_28 : decode cX5_imbalance 28 = .ok (.iaload, 1) := by decide +kernel
theorem dX5_imbalance_29 : decode cX5_imbalance 29 = .ok (.i2l, 1) := by decide +kernel
theorem dX5_imbalance_30 : decode cX5_imbalance 30 = .ok (.aload_n 0, 1) := by decide +kernel
theorem dX5_imbalance_31 : decode cX5_imbalance 31 = .ok (.iload 6, 2) := by decide +kernel
theorem dX5_imbalance_33 : decode cX5_imbalance 33 = .ok (.iload_n 2, 1) := by decide +kernel
theorem dX5_imbalance_34 : decode cX5_imbalance 34 = .ok (.iload_n 3, 1) := by decide +kernel
theorem dX5_imbalance_35 : decode cX5_imbalance 35 = .ok (.invokevirtual 205, 3) := by decide +kernel
theorem dX5_imbalance_38 : decode cX5_imbalance 38 = .ok (.lmul, 1) := by decide +kernel
theorem dX5_imbalance_39 : decode cX5_imbalance 39 = .ok (.ladd, 1) := by decide +kernel
theorem dX5_imbalance_40 : decode cX5_imbalance 40 = .ok (.lstore 4, 2) := by decide +kernel
theorem dX5_imbalance_42 : decode cX5_imbalance 42 = .ok (.iinc 6 1, 3) := by decide +kernel
theorem dX5_imbalance_45 : decode cX5_imbalance 45 = .ok (.goto (-39), 3) := by decide +kernel
theorem dX5_imbalance_48 : decode cX5_imbalance 48 = .ok (.lload 4, 2) := by decide +kernel
theorem dX5_imbalance_50 : decode cX5_imbalance 50 = .ok (.lreturn, 1) := by decide +kernel
theorem dX5_endsOf_0 : decode cX5_endsOf 0 = .ok (.lconst 0, 1) := by decide +kernel
theorem dX5_endsOf_1 : decode cX5_endsOf 1 = .ok (.lstore 4, 2) := by decide +kernel
theorem dX5_endsOf_3 : decode cX5_endsOf 3 = .ok (.iconst 0, 1) := by decide +kernel
theorem dX5_endsOf_4 : decode cX5_endsOf 4 = .ok (.istore 6, 2) := by decide +kernel
theorem dX5_endsOf_6 : decode cX5_endsOf 6 = .ok (.iload 6, 2) := by decide +kernel
theorem dX5_endsOf_8 : decode cX5_endsOf 8 = .ok (.aload_n 0, 1) := by decide +kernel
theorem dX5_endsOf_9 : decode cX5_endsOf 9 = .ok (.getfield 98, 3) := by decide +kernel
theorem dX5_endsOf_12 : decode cX5_endsOf 12 = .ok (.if_icmp .ge 54, 3) := by decide +kernel
theorem dX5_endsOf_15 : decode cX5_endsOf 15 = .ok (.lload 4, 2) := by decide +kernel
theorem dX5_endsOf_17 : decode cX5_endsOf 17 = .ok (.aload_n 0, 1) := by decide +kernel
theorem dX5_endsOf_18 : decode cX5_endsOf 18 = .ok (.getfield 65, 3) := by decide +kernel
theorem dX5_endsOf_21 : decode cX5_endsOf 21 = .ok (.bipush 6, 2) := by decide +kernel
theorem dX5_endsOf_23 : decode cX5_endsOf 23 = .ok (.iload_n 1, 1) := by decide +kernel
theorem dX5_endsOf_24 : decode cX5_endsOf 24 = .ok (.imul, 1) := by decide +kernel
theorem dX5_endsOf_25 : decode cX5_endsOf 25 = .ok (.iload 6, 2) := by decide +kernel
theorem dX5_endsOf_27 : decode cX5_endsOf 27 = .ok (.iadd, 1) := by decide +kernel
theorem dX5_endsOf_28 : decode cX5_endsOf 28 = .ok (.iaload, 1) := by decide +kernel
theorem dX5_endsOf_29 : decode cX5_endsOf 29 = .ok (.ifCond .ne 7, 3) := by decide +kernel
theorem dX5_endsOf_32 : decode cX5_endsOf 32 = .ok (.lconst 0, 1) := by decide +kernel
theorem dX5_endsOf_33 : decode cX5_endsOf 33 = .ok (.goto 24, 3) := by decide +kernel
theorem dX5_endsOf_36 : decode cX5_endsOf 36 = .ok (.aload_n 0, 1) := by decide +kernel
theorem dX5_endsOf_37 : decode cX5_endsOf 37 = .ok (.iload 6, 2) := by decide +kernel
theorem dX5_endsOf_39 : decode cX5_endsOf 39 = .ok (.iload_n 2, 1) := by decide +kernel
theorem dX5_endsOf_40 : decode cX5_endsOf 40 = .ok (.iload_n 3, 1) := by decide +kernel
theorem dX5_endsOf_41 : decode cX5_endsOf 41 = .ok (.invokevirtual 205, 3) := by decide +kernel
theorem dX5_endsOf_44 : decode cX5_endsOf 44 = .ok (.aload_n 0, 1) := by decide +kernel
theorem dX5_endsOf_45 : decode cX5_endsOf 45 = .ok (.getfield 25, 3) := by decide +kernel
theorem dX5_endsOf_48 : decode cX5_endsOf 48 = .ok (.iload 6, 2) := by decide +kernel
theorem dX5_endsOf_50 : decode cX5_endsOf 50 = .ok (.iaload, 1) := by decide +kernel
theorem dX5_endsOf_51 : decode cX5_endsOf 51 = .ok (.i2l, 1) := by decide +kernel
theorem dX5_endsOf_52 : decode cX5_endsOf 52 = .ok (.lmul, 1) := by decide +kernel
theorem dX5_endsOf_53 : decode cX5_endsOf 53 = .ok (.ldc2_w 113, 3) := by decide +kernel
theorem dX5_endsOf_56 : decode cX5_endsOf 56 = .ok (.ldiv, 1) := by decide +kernel
theorem dX5_endsOf_57 : decode cX5_endsOf 57 = .ok (.ladd, 1) := by decide +kernel
theorem dX5_endsOf_58 : decode cX5_endsOf 58 = .ok (.lstore 4, 2) := by decide +kernel
theorem dX5_endsOf_60 : decode cX5_endsOf 60 = .ok (.iinc 6 1, 3) := by decide +kernel
theorem dX5_endsOf_63 : decode cX5_endsOf 63 = .ok (.goto (-57), 3) := by decide +kernel
theorem dX5_endsOf_66 : decode cX5_endsOf 66 = .ok (.lload 4, 2) := by decide +kernel
theorem dX5_endsOf_68 : decode cX5_endsOf 68 = .ok (.lreturn, 1) := by decide +kernel
theorem dX5_balance_0 : decode cX5_balance 0 = .ok (.iload_n 1, 1) := by decide +kernel
theorem dX5_balance_1 : decode cX5_balance 1 = .ok (.invokestatic 209, 3) := by decide +kernel
theorem dX5_balance_4 : decode cX5_balance 4 = .ok (.ifCond .ne 22, 3) := by decide +kernel
theorem dX5_balance_7 : decode cX5_balance 7 = .ok (.iload 4, 2) := by decide +kernel
theorem dX5_balance_9 : decode cX5_balance 9 = .ok (.i2l, 1) := by decide +kernel
theorem dX5_balance_10 : decode cX5_balance 10 = .ok (.lconst 0, 1) := by decide +kernel
theorem dX5_balance_11 : decode cX5_balance 11 = .ok (.lconst 1, 1) := by decide +kernel
theorem dX5_balance_12 : decode cX5_balance 12 = .ok (.invokestatic 101, 3) := by decide +kernel
theorem dX5_balance_15 : decode cX5_balance 15 = .ok (.ifCond .eq 11, 3) := by decide +kernel
theorem dX5_balance_18 : decode cX5_balance 18 = .ok (.iload_n 2, 1) := by decide +kernel
theorem dX5_balance_19 : decode cX5_balance 19 = .ok (.iload_n 3, 1) := by decide +kernel
theorem dX5_balance_20 : decode cX5_balance 20 = .ok (.invokestatic 191, 3) := by decide +kernel
theorem dX5_balance_23 : decode cX5_balance 23 = .ok (.ifCond .ne 7, 3) := by decide +kernel
theorem dX5_balance_26 : decode cX5_balance 26 = .ok (.invokestatic 92, 3) := by decide +kernel
theorem dX5_balance_29 : decode cX5_balance 29 = .ok (.lreturn, 1) := by decide +kernel
theorem dX5_balance_30 : decode cX5_balance 30 = .ok (.iload 4, 2) := by decide +kernel
theorem dX5_balance_32 : decode cX5_balance 32 = .ok (.ifCond .ne 13, 3) := by decide +kernel
theorem dX5_balance_35 : decode cX5_balance 35 = .ok (.aload_n 0, 1) := by decide +kernel
theorem dX5_balance_36 : decode cX5_balance 36 = .ok (.iload_n 1, 1) := by decide +kernel
theorem dX5_balance_37 : decode cX5_balance 37 = .ok (.iload_n 2, 1) := by decide +kernel
theorem dX5_balance_38 : decode cX5_balance 38 = .ok (.iload_n 3, 1) := by decide +kernel
theorem dX5_balance_39 : decode cX5_balance 39 = .ok (.invokevirtual 216, 3) := by decide +kernel
theorem dX5_balance_42 : decode cX5_balance 42 = .ok (.goto 10, 3) := by decide +kernel
theorem dX5_balance_45 : decode cX5_balance 45 = .ok (.aload_n 0, 1) := by decide +kernel
theorem dX5_balance_46 : decode cX5_balance 46 = .ok (.iload_n 1, 1) := by decide +kernel
theorem dX5_balance_47 : decode cX5_balance 47 = .ok (.iload_n 2, 1) := by decide +kernel
theorem dX5_balance_48 : decode cX5_balance 48 = .ok (.iload_n 3, 1) := by decide +kernel
theorem dX5_balance_49 : decode cX5_balance 49 = .ok (.invokevirtual 219, 3) := by decide +kernel
theorem dX5_balance_52 : decode cX5_balance 52 = .ok (.lreturn, 1) := by decide +kernel
theorem dX5_beyondOf_0 : decode cX5_beyondOf 0 = .ok (.iconst 0, 1) := by decide +kernel
theorem dX5_beyondOf_1 : decode cX5_beyondOf 1 = .ok (.istore_n 3, 1) := by decide +kernel
theorem dX5_beyondOf_2 : decode cX5_beyondOf 2 = .ok (.iconst 0, 1) := by decide +kernel
theorem dX5_beyondOf_3 : decode cX5_beyondOf 3 = .ok (.istore 4, 2) := by decide +kernel
theorem dX5_beyondOf_5 : decode cX5_beyondOf 5 = .ok (.iload 4, 2) := by decide +kernel
theorem dX5_beyondOf_7 : decode cX5_beyondOf 7 = .ok (.iconst 4, 1) := by decide +kernel
theorem dX5_beyondOf_8 : decode cX5_beyondOf 8 = .ok (.if_icmp .ge 49, 3) := by decide +kernel
theorem dX5_beyondOf_11 : decode cX5_beyondOf 11 = .ok (.aload_n 0, 1) := by decide +kernel
theorem dX5_beyondOf_12 : decode cX5_beyondOf 12 = .ok (.iload 4, 2) := by decide +kernel
theorem dX5_beyondOf_14 : decode cX5_beyondOf 14 = .ok (.iload_n 1, 1) := by decide +kernel
theorem dX5_beyondOf_15 : decode cX5_beyondOf 15 = .ok (.iload_n 2, 1) := by decide +kernel
theorem dX5_beyondOf_16 : decode cX5_beyondOf 16 = .ok (.invokevirtual 219, 3) := by decide +kernel
theorem dX5_beyondOf_19 : decode cX5_beyondOf 19 = .ok (.lstore 5, 2) := by decide +kernel
theorem dX5_beyondOf_21 : decode cX5_beyondOf 21 = .ok (.iload_n 3, 1) := by decide +kernel
theorem dX5_beyondOf_22 : decode cX5_beyondOf 22 = .ok (.aload_n 0, 1) := by decide +kernel
theorem dX5_beyondOf_23 : decode cX5_beyondOf 23 = .ok (.iload 4, 2) := by decide +kernel
theorem dX5_beyondOf_25 : decode cX5_beyondOf 25 = .ok (.iload_n 1, 1) := by decide +kernel
theorem dX5_beyondOf_26 : decode cX5_beyondOf 26 = .ok (.iload_n 2, 1) := by decide +kernel
theorem dX5_beyondOf_27 : decode cX5_beyondOf 27 = .ok (.invokevirtual 216, 3) := by decide +kernel
theorem dX5_beyondOf_30 : decode cX5_beyondOf 30 = .ok (.lload 5, 2) := by decide +kernel
theorem dX5_beyondOf_32 : decode cX5_beyondOf 32 = .ok (.lneg, 1) := by decide +kernel
theorem dX5_beyondOf_33 : decode cX5_beyondOf 33 = .ok (.lload 5, 2) := by decide +kernel
theorem dX5_beyondOf_35 : decode cX5_beyondOf 35 = .ok (.invokestatic 101, 3) := by decide +kernel
theorem dX5_beyondOf_38 : decode cX5_beyondOf 38 = .ok (.ifCond .eq 7, 3) := by decide +kernel
theorem dX5_beyondOf_41 : decode cX5_beyondOf 41 = .ok (.iconst 0, 1) := by decide +kernel
theorem dX5_beyondOf_42 : decode cX5_beyondOf 42 = .ok (.goto 7, 3) := by decide +kernel
theorem dX5_beyondOf_45 : decode cX5_beyondOf 45 = .ok (.iconst 1, 1) := by decide +kernel
theorem dX5_beyondOf_46 : decode cX5_beyondOf 46 = .ok (.iload 4, 2) := by decide +kernel
theorem dX5_beyondOf_48 : decode cX5_beyondOf 48 = .ok (.ishl, 1) := by decide +kernel
theorem dX5_beyondOf_49 : decode cX5_beyondOf 49 = .ok (.ior, 1) := by decide +kernel
theorem dX5_beyondOf_50 : decode cX5_beyondOf 50 = .ok (.istore_n 3, 1) := by decide +kernel
theorem dX5_beyondOf_51 : decode cX5_beyondOf 51 = .ok (.iinc 4 1, 3) := by decide +kernel
theorem dX5_beyondOf_54 : decode cX5_beyondOf 54 = .ok (.goto (-49), 3) := by decide +kernel
theorem dX5_beyondOf_57 : decode cX5_beyondOf 57 = .ok (.iload_n 3, 1) := by decide +kernel
theorem dX5_beyondOf_58 : decode cX5_beyondOf 58 = .ok (.ireturn, 1) := by decide +kernel
theorem dX5_beyond_0 : decode cX5_beyond 0 = .ok (.iload_n 1, 1) := by decide +kernel
theorem dX5_beyond_1 : decode cX5_beyond 1 = .ok (.iload_n 2, 1) := by decide +kernel
theorem dX5_beyond_2 : decode cX5_beyond 2 = .ok (.invokestatic 191, 3) := by decide +kernel
theorem dX5_beyond_5 : decode cX5_beyond 5 = .ok (.ifCond .eq 12, 3) := by decide +kernel
theorem dX5_beyond_8 : decode cX5_beyond 8 = .ok (.aload_n 0, 1) := by decide +kernel
theorem dX5_beyond_9 : decode cX5_beyond 9 = .ok (.iload_n 1, 1) := by decide +kernel
theorem dX5_beyond_10 : decode cX5_beyond 10 = .ok (.iload_n 2, 1) := by decide +kernel
theorem dX5_beyond_11 : decode cX5_beyond 11 = .ok (.invokevirtual 222, 3) := by decide +kernel
theorem dX5_beyond_14 : decode cX5_beyond 14 = .ok (.goto 5, 3) := by decide +kernel
theorem dX5_beyond_17 : decode cX5_beyond 17 = .ok (.bipush (-2), 2) := by decide +kernel
theorem dX5_beyond_19 : decode cX5_beyond 19 = .ok (.ireturn, 1) := by decide +kernel
theorem dX5_explains_0 : decode cX5_explains 0 = .ok (.aload_n 0, 1) := by decide +kernel
theorem dX5_explains_1 : decode cX5_explains 1 = .ok (.iload_n 1, 1) := by decide +kernel
theorem dX5_explains_2 : decode cX5_explains 2 = .ok (.invokevirtual 115, 3) := by decide +kernel
theorem dX5_explains_5 : decode cX5_explains 5 = .ok (.ifCond .ne 11, 3) := by decide +kernel
theorem dX5_explains_8 : decode cX5_explains 8 = .ok (.iload_n 2, 1) := by decide +kernel
theorem dX5_explains_9 : decode cX5_explains 9 = .ok (.iload_n 3, 1) := by decide +kernel
theorem dX5_explains_10 : decode cX5_explains 10 = .ok (.invokestatic 191, 3) := by decide +kernel
theorem dX5_explains_13 : decode cX5_explains 13 = .ok (.ifCond .ne 7, 3) := by decide +kernel
theorem dX5_explains_16 : decode cX5_explains 16 = .ok (.invokestatic 92, 3) := by decide +kernel
theorem dX5_explains_19 : decode cX5_explains 19 = .ok (.lreturn, 1) := by decide +kernel
theorem dX5_explains_20 : decode cX5_explains 20 = .ok (.aload_n 0, 1) := by decide +kernel
theorem dX5_explains_21 : decode cX5_explains 21 = .ok (.iload_n 2, 1) := by decide +kernel
theorem dX5_explains_22 : decode cX5_explains 22 = .ok (.iload_n 3, 1) := by decide +kernel
theorem dX5_explains_23 : decode cX5_explains 23 = .ok (.invokevirtual 222, 3) := by decide +kernel
theorem dX5_explains_26 : decode cX5_explains 26 = .ok (.ifCond .ne 5, 3) := by decide +kernel
theorem dX5_explains_29 : decode cX5_explains 29 = .ok (.lconst 0, 1) := by decide +kernel
theorem dX5_explains_30 : decode cX5_explains 30 = .ok (.lreturn, 1) := by decide +kernel
theorem dX5_explains_31 : decode cX5_explains 31 = .ok (.ldc2_w 226, 3) := by decide +kernel
theorem dX5_explains_34 : decode cX5_explains 34 = .ok (.lstore 4, 2) := by decide +kernel
theorem dX5_explains_36 : decode cX5_explains 36 = .ok (.ldc2_w 228, 3) := by decide +kernel
theorem dX5_explains_39 : decode cX5_explains 39 = .ok (.lstore 6, 2) := by decide +kernel
theorem dX5_explains_41 : decode cX5_explains 41 = .ok (.iconst 0, 1) := by decide +kernel
theorem dX5_explains_42 : decode cX5_explains 42 = .ok (.istore 8, 2) := by decide +kernel
theorem dX5_explains_44 : decode cX5_explains 44 = .ok (.iload 8, 2) := by decide +kernel
theorem dX5_explains_46 : decode cX5_explains 46 = .ok (.iconst 4, 1) := by decide +kernel
theorem dX5_explains_47 : decode cX5_explains 47 = .ok (.if_icmp .ge 148, 3) := by decide +kernel
theorem dX5_explains_50 : decode cX5_explains 50 = .ok (.aload_n 0, 1) := by decide +kernel
theorem dX5_explains_51 : decode cX5_explains 51 = .ok (.iload 8, 2) := by decide +kernel
theorem dX5_explains_53 : decode cX5_explains 53 = .ok (.iload_n 2, 1) := by decide +kernel
theorem dX5_explains_54 : decode cX5_explains 54 = .ok (.iload_n 3, 1) := by decide +kernel
theorem dX5_explains_55 : decode cX5_explains 55 = .ok (.invokevirtual 216, 3) := by decide +kernel
theorem dX5_explains_58 : decode cX5_explains 58 = .ok (.lstore 9, 2) := by decide +kernel
theorem dX5_explains_60 : decode cX5_explains 60 = .ok (.aload_n 0, 1) := by decide +kernel
theorem dX5_explains_61 : decode cX5_explains 61 = .ok (.iload 8, 2) := by decide +kernel
theorem dX5_explains_63 : decode cX5_explains 63 = .ok (.iload_n 2, 1) := by decide +kernel
theorem dX5_explains_64 : decode cX5_explains 64 = .ok (.iload_n 3, 1) := by decide +kernel
theorem dX5_explains_65 : decode cX5_explains 65 = .ok (.invokevirtual 219, 3) := by decide +kernel
theorem dX5_explains_68 : decode cX5_explains 68 = .ok (.lstore 11, 2) := by decide +kernel
theorem dX5_explains_70 : decode cX5_explains 70 = .ok (.aload_n 0, 1) := by decide +kernel
theorem dX5_explains_71 : decode cX5_explains 71 = .ok (.getfield 65, 3) := by decide +kernel
theorem dX5_explains_74 : decode cX5_explains 74 = .ok (.bipush 6, 2) := by decide +kernel
theorem dX5_explains_76 : decode cX5_explains 76 = .ok (.iload 8, 2) := by decide +kernel
theorem dX5_explains_78 : decode cX5_explains 78 = .ok (.imul, 1) := by decide +kernel
theorem dX5_explains_79 : decode cX5_explains 79 = .ok (.iload_n 1, 1) := by decide +kernel
theorem dX5_explains_80 : decode cX5_explains 80 = .ok (.iadd, 1) := by decide +kernel
theorem dX5_explains_81 : decode cX5_explains 81 = .ok (.iaload, 1) := by decide +kernel
theorem dX5_explains_82 : decode cX5_explains 82 = .ok (.istore 13, 2) := by decide +kernel
theorem dX5_explains_84 : decode cX5_explains 84 = .ok (.iload 13, 2) := by decide +kernel
theorem dX5_explains_86 : decode cX5_explains 86 = .ok (.ifCond .ne 18, 3) := by decide +kernel
theorem dX5_explains_89 : decode cX5_explains 89 = .ok (.lload 9, 2) := by decide +kernel
theorem dX5_explains_91 : decode cX5_explains 91 = .ok (.lload 11, 2) := by decide +kernel
theorem dX5_explains_93 : decode cX5_explains 93 = .ok (.lneg, 1) := by decide +kernel
theorem dX5_explains_94 : decode cX5_explains 94 = .ok (.lload 11, 2) := by decide +kernel
theorem dX5_explains_96 : decode cX5_explains 96 = .ok (.invokestatic 101, 3) := by decide +kernel
theorem dX5_explains_99 : decode cX5_explains 99 = .ok (.ifCond .ne 5, 3) := by decide +kernel
theorem dX5_explains_102 : decode cX5_explains 102 = .ok (.lconst 0, 1) := by decide +kernel
theorem dX5_explains_103 : decode cX5_explains 103 = .ok (.lreturn, 1) := by decide +kernel
theorem dX5_explains_104 : decode cX5_explains 104 = .ok (.iload 13, 2) := by decide +kernel
theorem dX5_explains_106 : decode cX5_explains 106 = .ok (.ifCond .le 12, 3) := by decide +kernel
theorem dX5_explains_109 : decode cX5_explains 109 = .ok (.lload 11, 2) := by decide +kernel
theorem dX5_explains_111 : decode cX5_explains 111 = .ok (.lneg, 1) := by decide +kernel
theorem dX5_explains_112 : decode cX5_explains 112 = .ok (.lload 9, 2) := by decide +kernel
theorem dX5_explains_114 : decode cX5_explains 114 = .ok (.lsub, 1) := by decide +kernel
theorem dX5_explains_115 : decode cX5_explains 115 = .ok (.goto 8, 3) := by decide +kernel
theorem dX5_explains_118 : decode cX5_explains 118 = .ok (.lload 9, 2) := by decide +kernel
theorem dX5_explains_120 : decode cX5_explains 120 = .ok (.lload 11, 2) := by decide +kernel
theorem dX5_explains_122 : decode cX5_explains 122 = .ok (.lsub, 1) := by decide +kernel
theorem dX5_explains_123 : decode cX5_explains 123 = .ok (.lstore 14, 2) := by decide +kernel
theorem dX5_explains_125 : decode cX5_explains 125 = .ok (.iload 13, 2) := by decide +kernel
theorem dX5_explains_127 : decode cX5_explains 127 = .ok (.ifCond .le 11, 3) := by decide +kernel
theorem dX5_explains_130 : decode cX5_explains 130 = .ok (.lload 11, 2) := by decide +kernel
theorem dX5_explains_132 : decode cX5_explains 132 = .ok (.lload 9, 2) := by decide +kernel
theorem dX5_explains_134 : decode cX5_explains 134 = .ok (.lsub, 1) := by decide +kernel
theorem dX5_explains_135 : decode cX5_explains 135 = .ok (.goto 8, 3) := by decide +kernel
theorem dX5_explains_138 : decode cX5_explains 138 = .ok (.lload 9, 2) := by decide +kernel
theorem dX5_explains_140 : decode cX5_explains 140 = .ok (.lload 11, 2) := by decide +kernel
theorem dX5_explains_142 : decode cX5_explains 142 = .ok (.ladd, 1) := by decide +kernel
theorem dX5_explains_143 : decode cX5_explains 143 = .ok (.lstore 16, 2) := by decide +kernel
theorem dX5_explains_145 : decode cX5_explains 145 = .ok (.iload 13, 2) := by decide +kernel
theorem dX5_explains_147 : decode cX5_explains 147 = .ok (.ifCond .eq 16, 3) := by decide +kernel
theorem dX5_explains_150 : decode cX5_explains 150 = .ok (.lload 14, 2) := by decide +kernel
theorem dX5_explains_152 : decode cX5_explains 152 = .ok (.lload 4, 2) := by decide +kernel
theorem dX5_explains_154 : decode cX5_explains 154 = .ok (.lcmp, 1) := by decide +kernel
theorem dX5_explains_155 : decode cX5_explains 155 = .ok (.ifCond .le 8, 3) := by decide +kernel
theorem dX5_explains_158 : decode cX5_explains 158 = .ok (.lload 14, 2) := by decide +kernel
theorem dX5_explains_160 : decode cX5_explains 160 = .ok (.goto 5, 3) := by decide +kernel
theorem dX5_explains_163 : decode cX5_explains 163 = .ok (.lload 4, 2) := by decide +kernel
theorem dX5_explains_165 : decode cX5_explains 165 = .ok (.lstore 4, 2) := by decide +kernel
theorem dX5_explains_167 : decode cX5_explains 167 = .ok (.iload 13, 2) := by decide +kernel
theorem dX5_explains_169 : decode cX5_explains 169 = .ok (.ifCond .eq 16, 3) := by decide +kernel
theorem dX5_explains_172 : decode cX5_explains 172 = .ok (.lload 16, 2) := by decide +kernel
theorem dX5_explains_174 : decode cX5_explains 174 = .ok (.lload 6, 2) := by decide +kernel
theorem dX5_explains_176 : decode cX5_explains 176 = .ok (.lcmp, 1) := by decide +kernel
theorem dX5_explains_177 : decode cX5_explains 177 = .ok (.ifCond .ge 8, 3) := by decide +kernel
theorem dX5_explains_180 : decode cX5_explains 180 = .ok (.lload 16, 2) := by decide +kernel
theorem dX5_explains_182 : decode cX5_explains 182 = .ok (.goto 5, 3) := by decide +kernel
theorem dX5_explains_185 : decode cX5_explains 185 = .ok (.lload 6, 2) := by decide +kernel
theorem dX5_explains_187 : decode cX5_explains 187 = .ok (.lstore 6, 2) := by decide +kernel
theorem dX5_explains_189 : decode cX5_explains 189 = .ok (.iinc 8 1, 3) := by decide +kernel
theorem dX5_explains_192 : decode cX5_explains 192 = .ok (.goto (-148), 3) := by decide +kernel
theorem dX5_explains_195 : decode cX5_explains 195 = .ok (.lload 4, 2) := by decide +kernel
theorem dX5_explains_197 : decode cX5_explains 197 = .ok (.lload 6, 2) := by decide +kernel
theorem dX5_explains_199 : decode cX5_explains 199 = .ok (.lcmp, 1) := by decide +kernel
theorem dX5_explains_200 : decode cX5_explains 200 = .ok (.ifCond .le 7, 3) := by decide +kernel
theorem dX5_explains_203 : decode cX5_explains 203 = .ok (.lconst 0, 1) := by decide +kernel
theorem dX5_explains_204 : decode cX5_explains 204 = .ok (.goto 28, 3) := by decide +kernel
theorem dX5_explains_207 : decode cX5_explains 207 = .ok (.lload 4, 2) := by decide +kernel
theorem dX5_explains_209 : decode cX5_explains 209 = .ok (.lconst 0, 1) := by decide +kernel
theorem dX5_explains_210 : decode cX5_explains 210 = .ok (.lcmp, 1) := by decide +kernel
theorem dX5_explains_211 : decode cX5_explains 211 = .ok (.ifCond .le 8, 3) := by decide +kernel
theorem dX5_explains_214 : decode cX5_explains 214 = .ok (.lload 4, 2) := by decide +kernel
theorem dX5_explains_216 : decode cX5_explains 216 = .ok (.goto 16, 3) := by decide +kernel
theorem dX5_explains_219 : decode cX5_explains 219 = .ok (.lload 6, 2) := by decide +kernel
theorem dX5_explains_221 : decode cX5_explains 221 = .ok (.lconst 0, 1) := by decide +kernel
theorem dX5_explains_222 : decode cX5_explains 222 = .ok (.lcmp, 1) := by decide +kernel
theorem dX5_explains_223 : decode cX5_explains 223 = .ok (.ifCond .ge 8, 3) := by decide +kernel
theorem dX5_explains_226 : decode cX5_explains 226 = .ok (.lload 6, 2) := by decide +kernel
theorem dX5_explains_228 : decode cX5_explains 228 = .ok (.goto 4, 3) := by decide +kernel
theorem dX5_explains_231 : decode cX5_explains 231 = .ok (.lconst 0, 1) := by decide +kernel
theorem dX5_explains_232 : decode cX5_explains 232 = .ok (.lreturn, 1) := by decide +kernel
theorem dX5_noSheet_0 : decode cX5_noSheet 0 = .ok (.iload_n 0, 1) := by decide +kernel
theorem dX5_noSheet_1 : decode cX5_noSheet 1 = .ok (.i2l, 1) := by decide +kernel
theorem dX5_noSheet_2 : decode cX5_noSheet 2 = .ok (.lconst 0, 1) := by decide +kernel
theorem dX5_noSheet_3 : decode cX5_noSheet 3 = .ok (.ldc2_w 164, 3) := by decide +kernel
theorem dX5_noSheet_6 : decode cX5_noSheet 6 = .ok (.invokestatic 101, 3) := by decide +kernel
theorem dX5_noSheet_9 : decode cX5_noSheet 9 = .ok (.ifCond .ne 7, 3) := by decide +kernel
theorem dX5_noSheet_12 : decode cX5_noSheet 12 = .ok (.iconst 1, 1) := by decide +kernel
theorem dX5_noSheet_13 : decode cX5_noSheet 13 = .ok (.goto 4, 3) := by decide +kernel
theorem dX5_noSheet_16 : decode cX5_noSheet 16 = .ok (.iconst 0, 1) := by decide +kernel
theorem dX5_noSheet_17 : decode cX5_noSheet 17 = .ok (.ireturn, 1) := by decide +kernel
theorem dX5_sheet_0 : decode cX5_sheet 0 = .ok (.iload_n 1, 1) := by decide +kernel
theorem dX5_sheet_1 : decode cX5_sheet 1 = .ok (.invokestatic 230, 3) := by decide +kernel
theorem dX5_sheet_4 : decode cX5_sheet 4 = .ok (.ifCond .eq 9, 3) := by decide +kernel
theorem dX5_sheet_7 : decode cX5_sheet 7 = .ok (.aload_n 0, 1) := by decide +kernel
theorem dX5_sheet_8 : decode cX5_sheet 8 = .ok (.iconst (-1), 1) := by decide +kernel
theorem dX5_sheet_9 : decode cX5_sheet 9 = .ok (.invokevirtual 233, 3) := by decide +kernel
theorem dX5_sheet_12 : decode cX5_sheet 12 = .ok (.ireturn, 1) := by decide +kernel
theorem dX5_sheet_13 : decode cX5_sheet 13 = .ok (.iload_n 2, 1) := by decide +kernel
theorem dX5_sheet_14 : decode cX5_sheet 14 = .ok (.i2l, 1) := by decide +kernel
theorem dX5_sheet_15 : decode cX5_sheet 15 = .ok (.lconst 0, 1) := by decide +kernel
theorem dX5_sheet_16 : decode cX5_sheet 16 = .ok (.ldc2_w 96, 3) := by decide +kernel
theorem dX5_sheet_19 : decode cX5_sheet 19 = .ok (.invokestatic 101, 3) := by decide +kernel
theorem dX5_sheet_22 : decode cX5_sheet 22 = .ok (.ifCond .eq 9, 3) := by decide +kernel
theorem dX5_sheet_25 : decode cX5_sheet 25 = .ok (.iload_n 3, 1) := by decide +kernel
theorem dX5_sheet_26 : decode cX5_sheet 26 = .ok (.bipush 60, 2) := by decide +kernel
theorem dX5_sheet_28 : decode cX5_sheet 28 = .ok (.if_icmp .le 10, 3) := by decide +kernel
theorem dX5_sheet_31 : decode cX5_sheet 31 = .ok (.aload_n 0, 1) := by decide +kernel
theorem dX5_sheet_32 : decode cX5_sheet 32 = .ok (.bipush (-2), 2) := by decide +kernel
theorem dX5_sheet_34 : decode cX5_sheet 34 = .ok (.invokevirtual 233, 3) := by decide +kernel
theorem dX5_sheet_37 : decode cX5_sheet 37 = .ok (.ireturn, 1) := by decide +kernel
theorem dX5_sheet_38 : decode cX5_sheet 38 = .ok (.iload_n 3, 1) := by decide +kernel
theorem dX5_sheet_39 : decode cX5_sheet 39 = .ok (.ifCond .ge 9, 3) := by decide +kernel
theorem dX5_sheet_42 : decode cX5_sheet 42 = .ok (.aload_n 0, 1) := by decide +kernel
theorem dX5_sheet_43 : decode cX5_sheet 43 = .ok (.iconst 4, 1) := by decide +kernel
theorem dX5_sheet_44 : decode cX5_sheet 44 = .ok (.invokevirtual 237, 3) := by decide +kernel
theorem dX5_sheet_47 : decode cX5_sheet 47 = .ok (.ireturn, 1) := by decide +kernel
theorem dX5_sheet_48 : decode cX5_sheet 48 = .ok (.aload_n 0, 1) := by decide +kernel
theorem dX5_sheet_49 : decode cX5_sheet 49 = .ok (.getfield 68, 3) := by decide +kernel
theorem dX5_sheet_52 : decode cX5_sheet 52 = .ok (.iload_n 1, 1) := by decide +kernel
theorem dX5_sheet_53 : decode cX5_sheet 53 = .ok (.iload_n 3, 1) := by decide +kernel
theorem dX5_sheet_54 : decode cX5_sheet 54 = .ok (.iastore, 1) := by decide +kernel
theorem dX5_sheet_55 : decode cX5_sheet 55 = .ok (.aload_n 0, 1) := by decide +kernel
theorem dX5_sheet_56 : decode cX5_sheet 56 = .ok (.getfield 71, 3) := by decide +kernel
theorem dX5_sheet_59 : decode cX5_sheet 59 = .ok (.iload_n 1, 1) := by decide +kernel
theorem dX5_sheet_60 : decode cX5_sheet 60 = .ok (.iload_n 2, 1) := by decide +kernel
theorem dX5_sheet_61 : decode cX5_sheet 61 = .ok (.iastore, 1) := by decide +kernel
theorem dX5_sheet_62 : decode cX5_sheet 62 = .ok (.iconst 0, 1) := by decide +kernel
theorem dX5_sheet_63 : decode cX5_sheet 63 = .ok (.istore 4, 2) := by decide +kernel
theorem dX5_sheet_65 : decode cX5_sheet 65 = .ok (.iload 4, 2) := by decide +kernel
theorem dX5_sheet_67 : decode cX5_sheet 67 = .ok (.iload_n 3, 1) := by decide +kernel
theorem dX5_sheet_68 : decode cX5_sheet 68 = .ok (.if_icmp .ge 22, 3) := by decide +kernel
theorem dX5_sheet_71 : decode cX5_sheet 71 = .ok (.aload_n 0, 1) := by decide +kernel
theorem dX5_sheet_72 : decode cX5_sheet 72 = .ok (.getfield 74, 3) := by decide +kernel
theorem dX5_sheet_75 : decode cX5_sheet 75 = .ok (.bipush 60, 2) := by decide +kernel
theorem dX5_sheet_77 : decode cX5_sheet 77 = .ok (.iload_n 1, 1) := by decide +kernel
theorem dX5_sheet_78 : decode cX5_sheet 78 = .ok (.imul, 1) := by decide +kernel
theorem dX5_sheet_79 : decode cX5_sheet 79 = .ok (.iload 4, 2) := by decide +kernel
theorem dX5_sheet_81 : decode cX5_sheet 81 = .ok (.iadd, 1) := by decide +kernel
theorem dX5_sheet_82 : decode cX5_sheet 82 = .ok (.iconst 0, 1) := by decide +kernel
theorem dX5_sheet_83 : decode cX5_sheet 83 = .ok (.iastore, 1) := by decide +kernel
theorem dX5_sheet_84 : decode cX5_sheet 84 = .ok (.iinc 4 1, 3) := by decide +kernel
theorem dX5_sheet_87 : decode cX5_sheet 87 = .ok (.goto (-22), 3) := by decide +kernel
theorem dX5_sheet_90 : decode cX5_sheet 90 = .ok (.aload_n 0, 1) := by decide +kernel
theorem dX5_sheet_91 : decode cX5_sheet 91 = .ok (.iconst 1, 1) := by decide +kernel
theorem dX5_sheet_92 : decode cX5_sheet 92 = .ok (.invokevirtual 233, 3) := by decide +kernel
theorem dX5_sheet_95 : decode cX5_sheet 95 = .ok (.ireturn, 1) := by decide +kernel
theorem dX5_lose_0 : decode cX5_lose 0 = .ok (.iload_n 1, 1) := by decide +kernel
theorem dX5_lose_1 : decode cX5_lose 1 = .ok (.invokestatic 230, 3) := by decide +kernel
theorem dX5_lose_4 : decode cX5_lose 4 = .ok (.ifCond .eq 5, 3) := by decide +kernel
theorem dX5_lose_7 : decode cX5_lose 7 = .ok (.iconst (-1), 1) := by decide +kernel
theorem dX5_lose_8 : decode cX5_lose 8 = .ok (.ireturn, 1) := by decide +kernel
theorem dX5_lose_9 : decode cX5_lose 9 = .ok (.aload_n 0, 1) := by decide +kernel
theorem dX5_lose_10 : decode cX5_lose 10 = .ok (.getfield 68, 3) := by decide +kernel
theorem dX5_lose_13 : decode cX5_lose 13 = .ok (.iload_n 1, 1) := by decide +kernel
theorem dX5_lose_14 : decode cX5_lose 14 = .ok (.iaload, 1) := by decide +kernel
theorem dX5_lose_15 : decode cX5_lose 15 = .ok (.ifCond .ge 7, 3) := by decide +kernel
theorem dX5_lose_18 : decode cX5_lose 18 = .ok (.iconst 0, 1) := by decide +kernel
theorem dX5_lose_19 : decode cX5_lose 19 = .ok (.goto 4, 3) := by decide +kernel
theorem dX5_lose_22 : decode cX5_lose 22 = .ok (.iconst 1, 1) := by decide +kernel
theorem dX5_lose_23 : decode cX5_lose 23 = .ok (.istore_n 2, 1) := by decide +kernel
theorem dX5_lose_24 : decode cX5_lose 24 = .ok (.aload_n 0, 1) := by decide +kernel
theorem dX5_lose_25 : decode cX5_lose 25 = .ok (.getfield 68, 3) := by decide +kernel
theorem dX5_lose_28 : decode cX5_lose 28 = .ok (.iload_n 1, 1) := by decide +kernel
theorem dX5_lose_29 : decode cX5_lose 29 = .ok (.iconst (-1), 1) := by decide +kernel
theorem dX5_lose_30 : decode cX5_lose 30 = .ok (.iastore, 1) := by decide +kernel
theorem dX5_lose_31 : decode cX5_lose 31 = .ok (.iload_n 2, 1) := by decide +kernel
theorem dX5_lose_32 : decode cX5_lose 32 = .ok (.ireturn, 1) := by decide +kernel
theorem dX5_noCell_0 : decode cX5_noCell 0 = .ok (.aload_n 0, 1) := by decide +kernel
theorem dX5_noCell_1 : decode cX5_noCell 1 = .ok (.getfield 68, 3) := by decide +kernel
theorem dX5_noCell_4 : decode cX5_noCell 4 = .ok (.iload_n 1, 1) := by decide +kernel
theorem dX5_noCell_5 : decode cX5_noCell 5 = .ok (.iaload, 1) := by decide +kernel
theorem dX5_noCell_6 : decode cX5_noCell 6 = .ok (.ifCond .ge 7, 3) := by decide +kernel
theorem dX5_noCell_9 : decode cX5_noCell 9 = .ok (.iconst 1, 1) := by decide +kernel
theorem dX5_noCell_10 : decode cX5_noCell 10 = .ok (.goto 26, 3) := by decide +kernel
theorem dX5_noCell_13 : decode cX5_noCell 13 = .ok (.iload_n 2, 1) := by decide +kernel
theorem dX5_noCell_14 : decode cX5_noCell 14 = .ok (.i2l, 1) := by decide +kernel
theorem dX5_noCell_15 : decode cX5_noCell 15 = .ok (.lconst 0, 1) := by decide +kernel
theorem dX5_noCell_16 : decode cX5_noCell 16 = .ok (.aload_n 0, 1) := by decide +kernel
theorem dX5_noCell_17 : decode cX5_noCell 17 = .ok (.getfield 68, 3) := by decide +kernel
theorem dX5_noCell_20 : decode cX5_noCell 20 = .ok (.iload_n 1, 1) := by decide +kernel
theorem dX5_noCell_21 : decode cX5_noCell 21 = .ok (.iaload, 1) := by decide +kernel
theorem dX5_noCell_22 : decode cX5_noCell 22 = .ok (.i2l, 1) := by decide +kernel
theorem dX5_noCell_23 : decode cX5_noCell 23 = .ok (.lconst 1, 1) := by decide +kernel
theorem dX5_noCell_24 : decode cX5_noCell 24 = .ok (.lsub, 1) := by decide +kernel
theorem dX5_noCell_25 : decode cX5_noCell 25 = .ok (.invokestatic 101, 3) := by decide +kernel
theorem dX5_noCell_28 : decode cX5_noCell 28 = .ok (.ifCond .eq 7, 3) := by decide +kernel
theorem dX5_noCell_31 : decode cX5_noCell 31 = .ok (.iconst 0, 1) := by decide +kernel
theorem dX5_noCell_32 : decode cX5_noCell 32 = .ok (.goto 4, 3) := by decide +kernel
theorem dX5_noCell_35 : decode cX5_noCell 35 = .ok (.iconst 3, 1) := by decide +kernel
theorem dX5_noCell_36 : decode cX5_noCell 36 = .ok (.ireturn, 1) := by decide +kernel
theorem dX5_put_0 : decode cX5_put 0 = .ok (.iload_n 1, 1) := by decide +kernel
theorem dX5_put_1 : decode cX5_put 1 = .ok (.invokestatic 230, 3) := by decide +kernel
theorem dX5_put_4 : decode cX5_put 4 = .ok (.ifCond .eq 9, 3) := by decide +kernel
theorem dX5_put_7 : decode cX5_put 7 = .ok (.aload_n 0, 1) := by decide +kernel
theorem dX5_put_8 : decode cX5_put 8 = .ok (.iconst (-1), 1) := by decide +kernel
theorem dX5_put_9 : decode cX5_put 9 = .ok (.invokevirtual 233, 3) := by decide +kernel
theorem dX5_put_12 : decode cX5_put 12 = .ok (.ireturn, 1) := by decide +kernel
theorem dX5_put_13 : decode cX5_put 13 = .ok (.aload_n 0, 1) := by decide +kernel
theorem dX5_put_14 : decode cX5_put 14 = .ok (.iload_n 1, 1) := by decide +kernel
theorem dX5_put_15 : decode cX5_put 15 = .ok (.iload_n 2, 1) := by decide +kernel
theorem dX5_put_16 : decode cX5_put 16 = .ok (.invokevirtual 240, 3) := by decide +kernel
theorem dX5_put_19 : decode cX5_put 19 = .ok (.ifCond .le 14, 3) := by decide +kernel
theorem dX5_put_22 : decode cX5_put 22 = .ok (.aload_n 0, 1) := by decide +kernel
theorem dX5_put_23 : decode cX5_put 23 = .ok (.aload_n 0, 1) := by decide +kernel
theorem dX5_put_24 : decode cX5_put 24 = .ok (.iload_n 1, 1) := by decide +kernel
theorem dX5_put_25 : decode cX5_put 25 = .ok (.iload_n 2, 1) := by decide +kernel
theorem dX5_put_26 : decode cX5_put 26 = .ok (.invokevirtual 240, 3) := by decide +kernel
theorem dX5_put_29 : decode cX5_put 29 = .ok (.invokevirtual 237, 3) := by decide +kernel
theorem dX5_put_32 : decode cX5_put 32 = .ok (.ireturn, 1) := by decide +kernel
theorem dX5_put_33 : decode cX5_put 33 = .ok (.aload_n 0, 1) := by decide +kernel
theorem dX5_put_34 : decode cX5_put 34 = .ok (.getfield 74, 3) := by decide +kernel
theorem dX5_put_37 : decode cX5_put 37 = .ok (.bipush 60, 2) := by decide +kernel
theorem dX5_put_39 : decode cX5_put 39 = .ok (.iload_n 1, 1) := by decide +kernel
theorem dX5_put_40 : decode cX5_put 40 = .ok (.imul, 1) := by decide +kernel
theorem dX5_put_41 : decode cX5_put 41 = .ok (.iload_n 2, 1) := by decide +kernel
theorem dX5_put_42 : decode cX5_put 42 = .ok (.iadd, 1) := by decide +kernel
theorem dX5_put_43 : decode cX5_put 43 = .ok (.aload_n 0, 1) := by decide +kernel
theorem dX5_put_44 : decode cX5_put 44 = .ok (.getfield 71, 3) := by decide +kernel
theorem dX5_put_47 : decode cX5_put 47 = .ok (.iload_n 1, 1) := by decide +kernel
theorem dX5_put_48 : decode cX5_put 48 = .ok (.iaload, 1) := by decide +kernel
theorem dX5_put_49 : decode cX5_put 49 = .ok (.ifCond .ne 8, 3) := by decide +kernel
theorem dX5_put_52 : decode cX5_put 52 = .ok (.iload_n 3, 1) := by decide +kernel
theorem dX5_put_53 : decode cX5_put 53 = .ok (.i2b, 1) := by decide +kernel
theorem dX5_put_54 : decode cX5_put 54 = .ok (.goto 19, 3) := by decide +kernel
theorem dX5_put_57 : decode cX5_put 57 = .ok (.aload_n 0, 1) := by decide +kernel
theorem dX5_put_58 : decode cX5_put 58 = .ok (.getfield 71, 3) := by decide +kernel
theorem dX5_put_61 : decode cX5_put 61 = .ok (.iload_n 1, 1) := by decide +kernel
theorem dX5_put_62 : decode cX5_put 62 = .ok (.iaload, 1) := by decide +kernel
theorem dX5_put_63 : decode cX5_put 63 = .ok (.iconst 1, 1) := by decide +kernel
theorem dX5_put_64 : decode cX5_put 64 = .ok (.if_icmp .ne 8, 3) := by decide +kernel
theorem dX5_put_67 : decode cX5_put 67 = .ok (.iload_n 3, 1) := by decide +kernel
theorem dX5_put_68 : decode cX5_put 68 = .ok (.i2s, 1) := by decide +kernel
theorem dX5_put_69 : decode cX5_put 69 = .ok (.goto 4, 3) := by decide +kernel
theorem dX5_put_72 : decode cX5_put 72 = .ok (.iload_n 3, 1) := by decide +kernel
theorem dX5_put_73 : decode cX5_put 73 = .ok (.iastore, 1) := by decide +kernel
theorem dX5_put_74 : decode cX5_put 74 = .ok (.aload_n 0, 1) := by decide +kernel
theorem dX5_put_75 : decode cX5_put 75 = .ok (.iconst 1, 1) := by decide +kernel
theorem dX5_put_76 : decode cX5_put 76 = .ok (.invokevirtual 233, 3) := by decide +kernel
theorem dX5_put_79 : decode cX5_put 79 = .ok (.ireturn, 1) := by decide +kernel
theorem dX5_cell_0 : decode cX5_cell 0 = .ok (.aload_n 0, 1) := by decide +kernel
theorem dX5_cell_1 : decode cX5_cell 1 = .ok (.iconst 0, 1) := by decide +kernel
theorem dX5_cell_2 : decode cX5_cell 2 = .ok (.putfield 89, 3) := by decide +kernel
theorem dX5_cell_5 : decode cX5_cell 5 = .ok (.iload_n 1, 1) := by decide +kernel
theorem dX5_cell_6 : decode cX5_cell 6 = .ok (.invokestatic 230, 3) := by decide +kernel
theorem dX5_cell_9 : decode cX5_cell 9 = .ok (.ifCond .ne 15, 3) := by decide +kernel
theorem dX5_cell_12 : decode cX5_cell 12 = .ok (.iload_n 3, 1) := by decide +kernel
theorem dX5_cell_13 : decode cX5_cell 13 = .ok (.i2l, 1) := by decide +kernel
theorem dX5_cell_14 : decode cX5_cell 14 = .ok (.lconst 0, 1) := by decide +kernel
theorem dX5_cell_15 : decode cX5_cell 15 = .ok (.ldc2_w 96, 3) := by decide +kernel
theorem dX5_cell_18 : decode cX5_cell 18 = .ok (.invokestatic 101, 3) := by decide +kernel
theorem dX5_cell_21 : decode cX5_cell 21 = .ok (.ifCond .ne 7, 3) := by decide +kernel
theorem dX5_cell_24 : decode cX5_cell 24 = .ok (.invokestatic 92, 3) := by decide +kernel
theorem dX5_cell_27 : decode cX5_cell 27 = .ok (.lreturn, 1) := by decide +kernel
theorem dX5_cell_28 : decode cX5_cell 28 = .ok (.aload_n 0, 1) := by decide +kernel
theorem dX5_cell_29 : decode cX5_cell 29 = .ok (.getfield 68, 3) := by decide +kernel
theorem dX5_cell_32 : decode cX5_cell 32 = .ok (.iload_n 1, 1) := by decide +kernel
theorem dX5_cell_33 : decode cX5_cell 33 = .ok (.iaload, 1) := by decide +kernel
theorem dX5_cell_34 : decode cX5_cell 34 = .ok (.ifCond .lt 19, 3) := by decide +kernel
theorem dX5_cell_37 : decode cX5_cell 37 = .ok (.aload_n 0, 1) := by decide +kernel
theorem dX5_cell_38 : decode cX5_cell 38 = .ok (.getfield 71, 3) := by decide +kernel
theorem dX5_cell_41 : decode cX5_cell 41 = .ok (.iload_n 1, 1) := by decide +kernel
theorem dX5_cell_42 : decode cX5_cell 42 = .ok (.iaload, 1) := by decide +kernel
theorem dX5_cell_43 : decode cX5_cell 43 = .ok (.iload_n 3, 1) := by decide +kernel
theorem dX5_cell_44 : decode cX5_cell 44 = .ok (.if_icmp .eq 9, 3) := by decide +kernel
theorem dX5_cell_47 : decode cX5_cell 47 = .ok (.aload_n 0, 1) := by decide +kernel
theorem dX5_cell_48 : decode cX5_cell 48 = .ok (.iconst 2, 1) := by decide +kernel
theorem dX5_cell_49 : decode cX5_cell 49 = .ok (.invokevirtual 243, 3) := by decide +kernel
theorem dX5_cell_52 : decode cX5_cell 52 = .ok (.lreturn, 1) := by decide +kernel
theorem dX5_cell_53 : decode cX5_cell 53 = .ok (.aload_n 0, 1) := by decide +kernel
theorem dX5_cell_54 : decode cX5_cell 54 = .ok (.iload_n 1, 1) := by decide +kernel
theorem dX5_cell_55 : decode cX5_cell 55 = .ok (.iload_n 2, 1) := by decide +kernel
theorem dX5_cell_56 : decode cX5_cell 56 = .ok (.invokevirtual 240, 3) := by decide +kernel
theorem dX5_cell_59 : decode cX5_cell 59 = .ok (.ifCond .le 16, 3) := by decide +kernel
theorem dX5_cell_62 : decode cX5_cell 62 = .ok (.aload_n 0, 1) := by decide +kernel
theorem dX5_cell_63 : decode cX5_cell 63 = .ok (.aload_n 0, 1) := by decide +kernel
theorem dX5_cell_64 : decode cX5_cell 64 = .ok (.iload_n 1, 1) := by decide +kernel
theorem dX5_cell_65 : decode cX5_cell 65 = .ok (.iload_n 2, 1) := by decide +kernel
theorem dX5_cell_66 : decode cX5_cell 66 = .ok (.invokevirtual 240, 3) := by decide +kernel
theorem dX5_cell_69 : decode cX5_cell 69 = .ok (.invokevirtual 243, 3) := by decide +kernel
theorem dX5_cell_72 : decode cX5_cell 72 = .ok (.goto 15, 3) := by decide +kernel
theorem dX5_cell_75 : decode cX5_cell 75 = .ok (.aload_n 0, 1) := by decide +kernel
theorem dX5_cell_76 : decode cX5_cell 76 = .ok (.getfield 74, 3) := by decide +kernel
theorem dX5_cell_79 : decode cX5_cell 79 = .ok (.bipush 60, 2) := by decide +kernel
theorem dX5_cell_81 : decode cX5_cell 81 = .ok (.iload_n 1, 1) := by decide +kernel
theorem dX5_cell_82 : decode cX5_cell 82 = .ok (.imul, 1) := by decide +kernel
theorem dX5_cell_83 : decode cX5_cell 83 = .ok (.iload_n 2, 1) := by decide +kernel
theorem dX5_cell_84 : decode cX5_cell 84 = .ok (.iadd, 1) := by decide +kernel
theorem dX5_cell_85 : decode cX5_cell 85 = .ok (.iaload, 1) := by decide +kernel
theorem dX5_cell_86 : decode cX5_cell 86 = .ok (.i2l, 1) := by decide +kernel
theorem dX5_cell_87 : decode cX5_cell 87 = .ok (.lreturn, 1) := by decide +kernel
theorem dX5_isBeyond_0 : decode cX5_isBeyond 0 = .ok (.iload_n 0, 1) := by decide +kernel
theorem dX5_isBeyond_1 : decode cX5_isBeyond 1 = .ok (.ifCond .lt 18, 3) := by decide +kernel
theorem dX5_isBeyond_4 : decode cX5_isBeyond 4 = .ok (.iload_n 1, 1) := by decide +kernel
theorem dX5_isBeyond_5 : decode cX5_isBeyond 5 = .ok (.ifCond .lt 14, 3) := by decide +kernel
theorem dX5_isBeyond_8 : decode cX5_isBeyond 8 = .ok (.iload_n 0, 1) := by decide +kernel
theorem dX5_isBeyond_9 : decode cX5_isBeyond 9 = .ok (.i2l, 1) := by decide +kernel
theorem dX5_isBeyond_10 : decode cX5_isBeyond 10 = .ok (.iload_n 1, 1) := by decide +kernel
theorem dX5_isBeyond_11 : decode cX5_isBeyond 11 = .ok (.i2l, 1) := by decide +kernel
theorem dX5_isBeyond_12 : decode cX5_isBeyond 12 = .ok (.ladd, 1) := by decide +kernel
theorem dX5_isBeyond_13 : decode cX5_isBeyond 13 = .ok (.iload_n 2, 1) := by decide +kernel
theorem dX5_isBeyond_14 : decode cX5_isBeyond 14 = .ok (.i2l, 1) := by decide +kernel
theorem dX5_isBeyond_15 : decode cX5_isBeyond 15 = .ok (.lcmp, 1) := by decide +kernel
theorem dX5_isBeyond_16 : decode cX5_isBeyond 16 = .ok (.ifCond .le 7, 3) := by decide +kernel
theorem dX5_isBeyond_19 : decode cX5_isBeyond 19 = .ok (.iconst 1, 1) := by decide +kernel
theorem dX5_isBeyond_20 : decode cX5_isBeyond 20 = .ok (.goto 4, 3) := by decide +kernel
theorem dX5_isBeyond_23 : decode cX5_isBeyond 23 = .ok (.iconst 0, 1) := by decide +kernel
theorem dX5_isBeyond_24 : decode cX5_isBeyond 24 = .ok (.ireturn, 1) := by decide +kernel
theorem dX5_copy_0 : decode cX5_copy 0 = .ok (.iload_n 1, 1) := by decide +kernel
theorem dX5_copy_1 : decode cX5_copy 1 = .ok (.invokestatic 230, 3) := by decide +kernel
theorem dX5_copy_4 : decode cX5_copy 4 = .ok (.ifCond .ne 10, 3) := by decide +kernel
theorem dX5_copy_7 : decode cX5_copy 7 = .ok (.iload_n 3, 1) := by decide +kernel
theorem dX5_copy_8 : decode cX5_copy 8 = .ok (.invokestatic 230, 3) := by decide +kernel
theorem dX5_copy_11 : decode cX5_copy 11 = .ok (.ifCond .eq 9, 3) := by decide +kernel
theorem dX5_copy_14 : decode cX5_copy 14 = .ok (.aload_n 0, 1) := by decide +kernel
theorem dX5_copy_15 : decode cX5_copy 15 = .ok (.iconst (-1), 1) := by decide +kernel
theorem dX5_copy_16 : decode cX5_copy 16 = .ok (.invokevirtual 233, 3) := by decide +kernel
theorem dX5_copy_19 : decode cX5_copy 19 = .ok (.ireturn, 1) := by decide +kernel
theorem dX5_copy_20 : decode cX5_copy 20 = .ok (.aload_n 0, 1) := by decide +kernel
theorem dX5_copy_21 : decode cX5_copy 21 = .ok (.getfield 68, 3) := by decide +kernel
theorem dX5_copy_24 : decode cX5_copy 24 = .ok (.iload_n 1, 1) := by decide +kernel
theorem dX5_copy_25 : decode cX5_copy 25 = .ok (.iaload, 1) := by decide +kernel
theorem dX5_copy_26 : decode cX5_copy 26 = .ok (.ifCond .lt 12, 3) := by decide +kernel
theorem dX5_copy_29 : decode cX5_copy 29 = .ok (.aload_n 0, 1) := by decide +kernel
theorem dX5_copy_30 : decode cX5_copy 30 = .ok (.getfield 68, 3) := by decide +kernel
theorem dX5_copy_33 : decode cX5_copy 33 = .ok (.iload_n 3, 1) := by decide +kernel
theorem dX5_copy_34 : decode cX5_copy 34 = .ok (.iaload, 1) := by decide +kernel
theorem dX5_copy_35 : decode cX5_copy 35 = .ok (.ifCond .ge 9, 3) := by decide +kernel
theorem dX5_copy_38 : decode cX5_copy 38 = .ok (.aload_n 0, 1) := by decide +kernel
theorem dX5_copy_39 : decode cX5_copy 39 = .ok (.iconst 1, 1) := by decide +kernel
theorem dX5_copy_40 : decode cX5_copy 40 = .ok (.invokevirtual 237, 3) := by decide +kernel
theorem dX5_copy_43 : decode cX5_copy 43 = .ok (.ireturn, 1) := by decide +kernel
theorem dX5_copy_44 : decode cX5_copy 44 = .ok (.aload_n 0, 1) := by decide +kernel
theorem dX5_copy_45 : decode cX5_copy 45 = .ok (.getfield 71, 3) := by decide +kernel
theorem dX5_copy_48 : decode cX5_copy 48 = .ok (.iload_n 1, 1) := by decide +kernel
theorem dX5_copy_49 : decode cX5_copy 49 = .ok (.iaload, 1) := by decide +kernel
theorem dX5_copy_50 : decode cX5_copy 50 = .ok (.aload_n 0, 1) := by decide +kernel
theorem dX5_copy_51 : decode cX5_copy 51 = .ok (.getfield 71, 3) := by decide +kernel
theorem dX5_copy_54 : decode cX5_copy 54 = .ok (.iload_n 3, 1) := by decide +kernel
theorem dX5_copy_55 : decode cX5_copy 55 = .ok (.iaload, 1) := by decide +kernel
theorem dX5_copy_56 : decode cX5_copy 56 = .ok (.if_icmp .eq 9, 3) := by decide +kernel
theorem dX5_copy_59 : decode cX5_copy 59 = .ok (.aload_n 0, 1) := by decide +kernel
theorem dX5_copy_60 : decode cX5_copy 60 = .ok (.iconst 2, 1) := by decide +kernel
theorem dX5_copy_61 : decode cX5_copy 61 = .ok (.invokevirtual 237, 3) := by decide +kernel
theorem dX5_copy_64 : decode cX5_copy 64 = .ok (.ireturn, 1) := by decide +kernel
theorem dX5_copy_65 : decode cX5_copy 65 = .ok (.iload_n 2, 1) := by decide +kernel
theorem dX5_copy_66 : decode cX5_copy 66 = .ok (.iload 5, 2) := by decide +kernel
theorem dX5_copy_68 : decode cX5_copy 68 = .ok (.aload_n 0, 1) := by decide +kernel
theorem dX5_copy_69 : decode cX5_copy 69 = .ok (.getfield 68, 3) := by decide +kernel
theorem dX5_copy_72 : decode cX5_copy 72 = .ok (.iload_n 1, 1) := by decide +kernel
theorem dX5_copy_73 : decode cX5_copy 73 = .ok (.iaload, 1) := by decide +kernel
theorem dX5_copy_74 : decode cX5_copy 74 = .ok (.invokestatic 246, 3) := by decide +kernel
theorem dX5_copy_77 : decode cX5_copy 77 = .ok (.ifCond .ne 19, 3) := by decide +kernel
theorem dX5_copy_80 : decode cX5_copy 80 = .ok (.iload 4, 2) := by decide +kernel
theorem dX5_copy_82 : decode cX5_copy 82 = .ok (.iload 5, 2) := by decide +kernel
theorem dX5_copy_84 : decode cX5_copy 84 = .ok (.aload_n 0, 1) := by decide +kernel
theorem dX5_copy_85 : decode cX5_copy 85 = .ok (.getfield 68, 3) := by decide +kernel
theorem dX5_copy_88 : decode cX5_copy 88 = .ok (.iload_n 3, 1) := by decide +kernel
theorem dX5_copy_89 : decode cX5_copy 89 = .ok (.iaload, 1) := by decide +kernel
theorem dX5_copy_90 : decode cX5_copy 90 = .ok (.invokestatic 246, 3) := by decide +kernel
theorem dX5_copy_93 : decode cX5_copy 93 = .ok (.ifCond .eq 9, 3) := by decide +kernel
theorem dX5_copy_96 : decode cX5_copy 96 = .ok (.aload_n 0, 1) := by decide +kernel
theorem dX5_copy_97 : decode cX5_copy 97 = .ok (.iconst 3, 1) := by decide +kernel
theorem dX5_copy_98 : decode cX5_copy 98 = .ok (.invokevirtual 237, 3) := by decide +kernel
theorem dX5_copy_101 : decode cX5_copy 101 = .ok (.ireturn, 1) := by decide +kernel
theorem dX5_copy_102 : decode cX5_copy 102 = .ok (.iconst 0, 1) := by decide +kernel
theorem dX5_copy_103 : decode cX5_copy 103 = .ok (.istore 6, 2) := by decide +kernel
theorem dX5_copy_105 : decode cX5_copy 105 = .ok (.iload 6, 2) := by decide +kernel
theorem dX5_copy_107 : decode cX5_copy 107 = .ok (.iload 5, 2) := by decide +kernel
theorem dX5_copy_109 : decode cX5_copy 109 = .ok (.if_icmp .ge 30, 3) := by decide +kernel
theorem dX5_copy_112 : decode cX5_copy 112 = .ok (.aload_n 0, 1) := by decide +kernel
theorem dX5_copy_113 : decode cX5_copy 113 = .ok (.getfield 77, 3) := by decide +kernel
theorem dX5_copy_116 : decode cX5_copy 116 = .ok (.iload 6, 2) := by decide +kernel
theorem dX5_copy_118 : decode cX5_copy 118 = .ok (.aload_n 0, 1) := by decide +kernel
theorem dX5_copy_119 : decode cX5_copy 119 = .ok (.getfield 74, 3) := by decide +kernel
theorem dX5_copy_122 : decode cX5_copy 122 = .ok (.bipush 60, 2) := by decide +kernel
theorem dX5_copy_124 : decode cX5_copy 124 = .ok (.iload_n 1, 1) := by decide +kernel
theorem dX5_copy_125 : decode cX5_copy 125 = .ok (.imul, 1) := by decide +kernel
theorem dX5_copy_126 : decode cX5_copy 126 = .ok (.iload_n 2, 1) := by decide +kernel
theorem dX5_copy_127 : decode cX5_copy 127 = .ok (.iadd, 1) := by decide +kernel
theorem dX5_copy_128 : decode cX5_copy 128 = .ok (.iload 6, 2) := by decide +kernel
theorem dX5_copy_130 : decode cX5_copy 130 = .ok (.iadd, 1) := by decide +kernel
theorem dX5_copy_131 : decode cX5_copy 131 = .ok (.iaload, 1) := by decide +kernel
theorem dX5_copy_132 : decode cX5_copy 132 = .ok (.iastore, 1) := by decide +kernel
theorem dX5_copy_133 : decode cX5_copy 133 = .ok (.iinc 6 1, 3) := by decide +kernel
theorem dX5_copy_136 : decode cX5_copy 136 = .ok (.goto (-31), 3) := by decide +kernel
theorem dX5_copy_139 : decode cX5_copy 139 = .ok (.iconst 0, 1) := by decide +kernel
theorem dX5_copy_140 : decode cX5_copy 140 = .ok (.istore 6, 2) := by decide +kernel
theorem dX5_copy_142 : decode cX5_copy 142 = .ok (.iload 6, 2) := by decide +kernel
theorem dX5_copy_144 : decode cX5_copy 144 = .ok (.iload 5, 2) := by decide +kernel
theorem dX5_copy_146 : decode cX5_copy 146 = .ok (.if_icmp .ge 31, 3) := by decide +kernel
theorem dX5_copy_149 : decode cX5_copy 149 = .ok (.aload_n 0, 1) := by decide +kernel
theorem dX5_copy_150 : decode cX5_copy 150 = .ok (.getfield 74, 3) := by decide +kernel
theorem dX5_copy_153 : decode cX5_copy 153 = .ok (.bipush 60, 2) := by decide +kernel
theorem dX5_copy_155 : decode cX5_copy 155 = .ok (.iload_n 3, 1) := by decide +kernel
theorem dX5_copy_156 : decode cX5_copy 156 = .ok (.imul, 1) := by decide +kernel
theorem dX5_copy_157 : decode cX5_copy 157 = .ok (.iload 4, 2) := by decide +kernel
theorem dX5_copy_159 : decode cX5_copy 159 = .ok (.iadd, 1) := by decide +kernel
theorem dX5_copy_160 : decode cX5_copy 160 = .ok (.iload 6, 2) := by decide +kernel
theorem dX5_copy_162 : decode cX5_copy 162 = .ok (.iadd, 1) := by decide +kernel
theorem dX5_copy_163 : decode cX5_copy 163 = .ok (.aload_n 0, 1) := by decide +kernel
theorem dX5_copy_164 : decode cX5_copy 164 = .ok (.getfield 77, 3) := by decide +kernel
theorem dX5_copy_167 : decode cX5_copy 167 = .ok (.iload 6, 2) := by decide +kernel
theorem dX5_copy_169 : decode cX5_copy 169 = .ok (.iaload, 1) := by decide +kernel
theorem dX5_copy_170 : decode cX5_copy 170 = .ok (.iastore, 1) := by decide +kernel
theorem dX5_copy_171 : decode cX5_copy 171 = .ok (.iinc 6 1, 3) := by decide +kernel
theorem dX5_copy_174 : decode cX5_copy 174 = .ok (.goto (-32), 3) := by decide +kernel
theorem dX5_copy_177 : decode cX5_copy 177 = .ok (.aload_n 0, 1) := by decide +kernel
theorem dX5_copy_178 : decode cX5_copy 178 = .ok (.iload 5, 2) := by decide +kernel
theorem dX5_copy_180 : decode cX5_copy 180 = .ok (.invokevirtual 233, 3) := by decide +kernel
theorem dX5_copy_183 : decode cX5_copy 183 = .ok (.ireturn, 1) := by decide +kernel
theorem dX5_watch_0 : decode cX5_watch 0 = .ok (.iload_n 1, 1) := by decide +kernel
theorem dX5_watch_1 : decode cX5_watch 1 = .ok (.invokestatic 230, 3) := by decide +kernel
theorem dX5_watch_4 : decode cX5_watch 4 = .ok (.ifCond .eq 9, 3) := by decide +kernel
theorem dX5_watch_7 : decode cX5_watch 7 = .ok (.aload_n 0, 1) := by decide +kernel
theorem dX5_watch_8 : decode cX5_watch 8 = .ok (.iconst (-1), 1) := by decide +kernel
theorem dX5_watch_9 : decode cX5_watch 9 = .ok (.invokevirtual 233, 3) := by decide +kernel
theorem dX5_watch_12 : decode cX5_watch 12 = .ok (.ireturn, 1) := by decide +kernel
theorem dX5_watch_13 : decode cX5_watch 13 = .ok (.iload_n 2, 1) := by decide +kernel
theorem dX5_watch_14 : decode cX5_watch 14 = .ok (.i2l, 1) := by decide +kernel
theorem dX5_watch_15 : decode cX5_watch 15 = .ok (.lconst 0, 1) := by decide +kernel
theorem dX5_watch_16 : decode cX5_watch 16 = .ok (.ldc2_w 96, 3) := by decide +kernel
theorem dX5_watch_19 : decode cX5_watch 19 = .ok (.invokestatic 101, 3) := by decide +kernel
theorem dX5_watch_22 : decode cX5_watch 22 = .ok (.ifCond .eq 16, 3) := by decide +kernel
theorem dX5_watch_25 : decode cX5_watch 25 = .ok (.iload 5, 2) := by decide +kernel
theorem dX5_watch_27 : decode cX5_watch 27 = .ok (.i2l, 1) := by decide +kernel
theorem dX5_watch_28 : decode cX5_watch 28 = .ok (.lconst 0, 1) := by decide +kernel
theorem dX5_watch_29 : decode cX5_watch 29 = .ok (.ldc2_w 164, 3) := by decide +kernel
theorem dX5_watch_32 : decode cX5_watch 32 = .ok (.invokestatic 101, 3) := by decide +kernel
theorem dX5_watch_35 : decode cX5_watch 35 = .ok (.ifCond .ne 10, 3) := by decide +kernel
theorem dX5_watch_38 : decode cX5_watch 38 = .ok (.aload_n 0, 1) := by decide +kernel
theorem dX5_watch_39 : decode cX5_watch 39 = .ok (.bipush (-2), 2) := by decide +kernel
theorem dX5_watch_41 : decode cX5_watch 41 = .ok (.invokevirtual 233, 3) := by decide +kernel
theorem dX5_watch_44 : decode cX5_watch 44 = .ok (.ireturn, 1) := by decide +kernel
theorem dX5_watch_45 : decode cX5_watch 45 = .ok (.aload_n 0, 1) := by decide +kernel
theorem dX5_watch_46 : decode cX5_watch 46 = .ok (.getfield 68, 3) := by decide +kernel
theorem dX5_watch_49 : decode cX5_watch 49 = .ok (.iload_n 1, 1) := by decide +kernel
theorem dX5_watch_50 : decode cX5_watch 50 = .ok (.iaload, 1) := by decide +kernel
theorem dX5_watch_51 : decode cX5_watch 51 = .ok (.ifCond .lt 19, 3) := by decide +kernel
theorem dX5_watch_54 : decode cX5_watch 54 = .ok (.aload_n 0, 1) := by decide +kernel
theorem dX5_watch_55 : decode cX5_watch 55 = .ok (.getfield 71, 3) := by decide +kernel
theorem dX5_watch_58 : decode cX5_watch 58 = .ok (.iload_n 1, 1) := by decide +kernel
theorem dX5_watch_59 : decode cX5_watch 59 = .ok (.iaload, 1) := by decide +kernel
theorem dX5_watch_60 : decode cX5_watch 60 = .ok (.iload_n 2, 1) := by decide +kernel
theorem dX5_watch_61 : decode cX5_watch 61 = .ok (.if_icmp .eq 9, 3) := by decide +kernel
theorem dX5_watch_64 : decode cX5_watch 64 = .ok (.aload_n 0, 1) := by decide +kernel
theorem dX5_watch_65 : decode cX5_watch 65 = .ok (.iconst 2, 1) := by decide +kernel
theorem dX5_watch_66 : decode cX5_watch 66 = .ok (.invokevirtual 237, 3) := by decide +kernel
theorem dX5_watch_69 : decode cX5_watch 69 = .ok (.ireturn, 1) := by decide +kernel
theorem dX5_watch_70 : decode cX5_watch 70 = .ok (.aload_n 0, 1) := by decide +kernel
theorem dX5_watch_71 : decode cX5_watch 71 = .ok (.getfield 68, 3) := by decide +kernel
theorem dX5_watch_74 : decode cX5_watch 74 = .ok (.iload_n 1, 1) := by decide +kernel
theorem dX5_watch_75 : decode cX5_watch 75 = .ok (.iaload, 1) := by decide +kernel
theorem dX5_watch_76 : decode cX5_watch 76 = .ok (.ifCond .ge 9, 3) := by decide +kernel
theorem dX5_watch_79 : decode cX5_watch 79 = .ok (.aload_n 0, 1) := by decide +kernel
theorem dX5_watch_80 : decode cX5_watch 80 = .ok (.iconst 1, 1) := by decide +kernel
theorem dX5_watch_81 : decode cX5_watch 81 = .ok (.invokevirtual 237, 3) := by decide +kernel
theorem dX5_watch_84 : decode cX5_watch 84 = .ok (.ireturn, 1) := by decide +kernel
theorem dX5_watch_85 : decode cX5_watch 85 = .ok (.iload 4, 2) := by decide +kernel
theorem dX5_watch_87 : decode cX5_watch 87 = .ok (.ifCond .ge 9, 3) := by decide +kernel
theorem dX5_watch_90 : decode cX5_watch 90 = .ok (.aload_n 0, 1) := by decide +kernel
theorem dX5_watch_91 : decode cX5_watch 91 = .ok (.iconst 4, 1) := by decide +kernel
theorem dX5_watch_92 : decode cX5_watch 92 = .ok (.invokevirtual 237, 3) := by decide +kernel
theorem dX5_watch_95 : decode cX5_watch 95 = .ok (.ireturn, 1) := by decide +kernel
theorem dX5_watch_96 : decode cX5_watch 96 = .ok (.iload_n 3, 1) := by decide +kernel
theorem dX5_watch_97 : decode cX5_watch 97 = .ok (.iload 4, 2) := by decide +kernel
theorem dX5_watch_99 : decode cX5_watch 99 = .ok (.aload_n 0, 1) := by decide +kernel
theorem dX5_watch_100 : decode cX5_watch 100 = .ok (.getfield 68, 3) := by decide +kernel
theorem dX5_watch_103 : decode cX5_watch 103 = .ok (.iload_n 1, 1) := by decide +kernel
theorem dX5_watch_104 : decode cX5_watch 104 = .ok (.iaload, 1) := by decide +kernel
theorem dX5_watch_105 : decode cX5_watch 105 = .ok (.invokestatic 246, 3) := by decide +kernel
theorem dX5_watch_108 : decode cX5_watch 108 = .ok (.ifCond .eq 9, 3) := by decide +kernel
theorem dX5_watch_111 : decode cX5_watch 111 = .ok (.aload_n 0, 1) := by decide +kernel
theorem dX5_watch_112 : decode cX5_watch 112 = .ok (.iconst 3, 1) := by decide +kernel
theorem dX5_watch_113 : decode cX5_watch 113 = .ok (.invokevirtual 237, 3) := by decide +kernel
theorem dX5_watch_116 : decode cX5_watch 116 = .ok (.ireturn, 1) := by decide +kernel
theorem dX5_watch_117 : decode cX5_watch 117 = .ok (.iconst 0, 1) := by decide +kernel
theorem dX5_watch_118 : decode cX5_watch 118 = .ok (.istore 6, 2) := by decide +kernel
theorem dX5_watch_120 : decode cX5_watch 120 = .ok (.iconst 0, 1) := by decide +kernel
theorem dX5_watch_121 : decode cX5_watch 121 = .ok (.istore 7, 2) := by decide +kernel
theorem dX5_watch_123 : decode cX5_watch 123 = .ok (.iconst 0, 1) := by decide +kernel
theorem dX5_watch_124 : decode cX5_watch 124 = .ok (.istore 8, 2) := by decide +kernel
theorem dX5_watch_126 : decode cX5_watch 126 = .ok (.iconst 0, 1) := by decide +kernel
theorem dX5_watch_127 : decode cX5_watch 127 = .ok (.istore 9, 2) := by decide +kernel
theorem dX5_watch_129 : decode cX5_watch 129 = .ok (.iconst 1, 1) := by decide +kernel
theorem dX5_watch_130 : decode cX5_watch 130 = .ok (.istore 10, 2) := by decide +kernel
theorem dX5_watch_132 : decode cX5_watch 132 = .ok (.iload_n 3, 1) := by decide +kernel
theorem dX5_watch_133 : decode cX5_watch 133 = .ok (.istore 11, 2) := by decide +kernel
theorem dX5_watch_135 : decode cX5_watch 135 = .ok (.iload 11, 2) := by decide +kernel
theorem dX5_watch_137 : decode cX5_watch 137 = .ok (.iload_n 3, 1) := by decide +kernel
theorem dX5_watch_138 : decode cX5_watch 138 = .ok (.iload 4, 2) := by decide +kernel
theorem dX5_watch_140 : decode cX5_watch 140 = .ok (.iadd, 1) := by decide +kernel
theorem dX5_watch_141 : decode cX5_watch 141 = .ok (.if_icmp .ge 113, 3) := by decide +kernel
theorem dX5_watch_144 : decode cX5_watch 144 = .ok (.aload_n 0, 1) := by decide +kernel
theorem dX5_watch_145 : decode cX5_watch 145 = .ok (.getfield 74, 3) := by decide +kernel
theorem dX5_watch_148 : decode cX5_watch 148 = .ok (.bipush 60, 2) := by decide +kernel
theorem dX5_watch_150 : decode cX5_watch 150 = .ok (.iload_n 1, 1) := by decide +kernel
theorem dX5_watch_151 : decode cX5_watch 151 = .ok (.imul, 1) := by decide +kernel
theorem dX5_watch_152 : decode cX5_watch 152 = .ok (.iload 11, 2) := by decide +kernel
theorem dX5_watch_154 : decode cX5_watch 154 = .ok (.iadd, 1) := by decide +kernel
theorem dX5_watch_155 : decode cX5_watch 155 = .ok (.iaload, 1) := by decide +kernel
theorem dX5_watch_156 : decode cX5_watch 156 = .ok (.istore 12, 2) := by decide +kernel
theorem dX5_watch_158 : decode cX5_watch 158 = .ok (.iload 12, 2) := by decide +kernel
theorem dX5_watch_160 : decode cX5_watch 160 = .ok (.iconst 1, 1) := by decide +kernel
theorem dX5_watch_161 : decode cX5_watch 161 = .ok (.if_icmp .eq 9, 3) := by decide +kernel
theorem dX5_watch_164 : decode cX5_watch 164 = .ok (.iload 12, 2) := by decide +kernel
theorem dX5_watch_166 : decode cX5_watch 166 = .ok (.iconst 2, 1) := by decide +kernel
theorem dX5_watch_167 : decode cX5_watch 167 = .ok (.if_icmp .ne 81, 3) := by decide +kernel
theorem dX5_watch_170 : decode cX5_watch 170 = .ok (.iload 12, 2) := by decide +kernel
theorem dX5_watch_172 : decode cX5_watch 172 = .ok (.iload 9, 2) := by decide +kernel
theorem dX5_watch_174 : decode cX5_watch 174 = .ok (.if_icmp .ne 7, 3) := by decide +kernel
theorem dX5_watch_177 : decode cX5_watch 177 = .ok (.iconst 1, 1) := by decide +kernel
theorem dX5_watch_178 : decode cX5_watch 178 = .ok (.goto 4, 3) := by decide +kernel
theorem dX5_watch_181 : decode cX5_watch 181 = .ok (.iconst 0, 1) := by decide +kernel
theorem dX5_watch_182 : decode cX5_watch 182 = .ok (.istore 13, 2) := by decide +kernel
theorem dX5_watch_184 : decode cX5_watch 184 = .ok (.iinc 6 1, 3) := by decide +kernel
theorem dX5_watch_187 : decode cX5_watch 187 = .ok (.iload 7, 2) := by decide +kernel
theorem dX5_watch_189 : decode cX5_watch 189 = .ok (.iload 13, 2) := by decide +kernel
theorem dX5_watch_191 : decode cX5_watch 191 = .ok (.ifCond .eq 12, 3) := by decide +kernel
theorem dX5_watch_194 : decode cX5_watch 194 = .ok (.iload 10, 2) := by decide +kernel
theorem dX5_watch_196 : decode cX5_watch 196 = .ok (.ifCond .eq 7, 3) := by decide +kernel
theorem dX5_watch_199 : decode cX5_watch 199 = .ok (.iconst 1, 1) := by decide +kernel
theorem dX5_watch_200 : decode cX5_watch 200 = .ok (.goto 4, 3) := by decide +kernel
theorem dX5_watch_203 : decode cX5_watch 203 = .ok (.iconst 0, 1) := by decide +kernel
theorem dX5_watch_204 : decode cX5_watch 204 = .ok (.iadd, 1) := by decide +kernel
theorem dX5_watch_205 : decode cX5_watch 205 = .ok (.istore 7, 2) := by decide +kernel
theorem dX5_watch_207 : decode cX5_watch 207 = .ok (.iload 8, 2) := by decide +kernel
theorem dX5_watch_209 : decode cX5_watch 209 = .ok (.iload 13, 2) := by decide +kernel
theorem dX5_watch_211 : decode cX5_watch 211 = .ok (.ifCond .eq 12, 3) := by decide +kernel
theorem dX5_watch_214 : decode cX5_watch 214 = .ok (.iload 10, 2) := by decide +kernel
theorem dX5_watch_216 : decode cX5_watch 216 = .ok (.ifCond .ne 7, 3) := by decide +kernel
theorem dX5_watch_219 : decode cX5_watch 219 = .ok (.iconst 1, 1) := by decide +kernel
theorem dX5_watch_220 : decode cX5_watch 220 = .ok (.goto 4, 3) := by decide +kernel
theorem dX5_watch_223 : decode cX5_watch 223 = .ok (.iconst 0, 1) := by decide +kernel
theorem dX5_watch_224 : decode cX5_watch 224 = .ok (.iadd, 1) := by decide +kernel
theorem dX5_watch_225 : decode cX5_watch 225 = .ok (.istore 8, 2) := by decide +kernel
theorem dX5_watch_227 : decode cX5_watch 227 = .ok (.iload 13, 2) := by decide +kernel
theorem dX5_watch_229 : decode cX5_watch 229 = .ok (.ifCond .eq 8, 3) := by decide +kernel
theorem dX5_watch_232 : decode cX5_watch 232 = .ok (.iload 10, 2) := by decide +kernel
theorem dX5_watch_234 : decode cX5_watch 234 = .ok (.ifCond .ne 7, 3) := by decide +kernel
theorem dX5_watch_237 : decode cX5_watch 237 = .ok (.iconst 1, 1) := by decide +kernel
theorem dX5_watch_238 : decode cX5_watch 238 = .ok (.goto 4, 3) := by decide +kernel
theorem dX5_watch_241 : decode cX5_watch 241 = .ok (.iconst 0, 1) := by decide +kernel
theorem dX5_watch_242 : decode cX5_watch 242 = .ok (.istore 10, 2) := by decide +kernel
theorem dX5_watch_244 : decode cX5_watch 244 = .ok (.iload 12, 2) := by decide +kernel
theorem dX5_watch_246 : decode cX5_watch 246 = .ok (.istore 9, 2) := by decide +kernel
theorem dX5_watch_248 : decode cX5_watch 248 = .ok (.iinc 11 1, 3) := by decide +kernel
theorem dX5_watch_251 : decode cX5_watch 251 = .ok (.goto (-116), 3) := by decide +kernel
theorem dX5_watch_254 : decode cX5_watch 254 = .ok (.aload_n 0, 1) := by decide +kernel
theorem dX5_watch_255 : decode cX5_watch 255 = .ok (.iload 5, 2) := by decide +kernel
theorem dX5_watch_257 : decode cX5_watch 257 = .ok (.ifCond .ne 8, 3) := by decide +kernel
theorem dX5_watch_260 : decode cX5_watch 260 = .ok (.iload 6, 2) := by decide +kernel
theorem dX5_watch_262 : decode cX5_watch 262 = .ok (.goto 33, 3) := by decide +kernel
theorem dX5_watch_265 : decode cX5_watch 265 = .ok (.iload 5, 2) := by decide +kernel
theorem dX5_watch_267 : decode cX5_watch 267 = .ok (.iconst 1, 1) := by decide +kernel
theorem dX5_watch_268 : decode cX5_watch 268 = .ok (.if_icmp .ne 8, 3) := by decide +kernel
theorem dX5_watch_271 : decode cX5_watch 271 = .ok (.iload 7, 2) := by decide +kernel
theorem dX5_watch_273 : decode cX5_watch 273 = .ok (.goto 22, 3) := by decide +kernel
theorem dX5_watch_276 : decode cX5_watch 276 = .ok (.iload 5, 2) := by decide +kernel
theorem dX5_watch_278 : decode cX5_watch 278 = .ok (.iconst 2, 1) := by decide +kernel
theorem dX5_watch_279 : decode cX5_watch 279 = .ok (.if_icmp .ne 8, 3) := by decide +kernel
theorem dX5_watch_282 : decode cX5_watch 282 = .ok (.iload 8, 2) := by decide +kernel
theorem dX5_watch_284 : decode cX5_watch 284 = .ok (.goto 11, 3) := by decide +kernel
theorem dX5_watch_287 : decode cX5_watch 287 = .ok (.iload 6, 2) := by decide +kernel
theorem dX5_watch_289 : decode cX5_watch 289 = .ok (.iload 7, 2) := by decide +kernel
theorem dX5_watch_291 : decode cX5_watch 291 = .ok (.iadd, 1) := by decide +kernel
theorem dX5_watch_292 : decode cX5_watch 292 = .ok (.iload 8, 2) := by decide +kernel
theorem dX5_watch_294 : decode cX5_watch 294 = .ok (.isub, 1) := by decide +kernel
theorem dX5_watch_295 : decode cX5_watch 295 = .ok (.invokevirtual 233, 3) := by decide +kernel
theorem dX5_watch_298 : decode cX5_watch 298 = .ok (.ireturn, 1) := by decide +kernel
theorem dX5_traced_0 : decode cX5_traced 0 = .ok (.aload_n 0, 1) := by decide +kernel
theorem dX5_traced_1 : decode cX5_traced 1 = .ok (.bipush 31, 2) := by decide +kernel
theorem dX5_traced_3 : decode cX5_traced 3 = .ok (.aload_n 0, 1) := by decide +kernel
theorem dX5_traced_4 : decode cX5_traced 4 = .ok (.getfield 250, 3) := by decide +kernel
theorem dX5_traced_7 : decode cX5_traced 7 = .ok (.imul, 1) := by decide +kernel
theorem dX5_traced_8 : decode cX5_traced 8 = .ok (.iload_n 1, 1) := by decide +kernel
theorem dX5_traced_9 : decode cX5_traced 9 = .ok (.iadd, 1) := by decide +kernel
theorem dX5_traced_10 : decode cX5_traced 10 = .ok (.putfield 250, 3) := by decide +kernel
theorem dX5_traced_13 : decode cX5_traced 13 = .ok (.return_, 1) := by decide +kernel
theorem dX5_tell_0 : decode cX5_tell 0 = .ok (.aload_n 0, 1) := by decide +kernel
theorem dX5_tell_1 : decode cX5_tell 1 = .ok (.iload_n 1, 1) := by decide +kernel
theorem dX5_tell_2 : decode cX5_tell 2 = .ok (.invokevirtual 188, 3) := by decide +kernel
theorem dX5_tell_5 : decode cX5_tell 5 = .ok (.ifCond .eq 5, 3) := by decide +kernel
theorem dX5_tell_8 : decode cX5_tell 8 = .ok (.iconst (-1), 1) := by decide +kernel
theorem dX5_tell_9 : decode cX5_tell 9 = .ok (.ireturn, 1) := by decide +kernel
theorem dX5_tell_10 : decode cX5_tell 10 = .ok (.aload_n 0, 1) := by decide +kernel
theorem dX5_tell_11 : decode cX5_tell 11 = .ok (.getfield 41, 3) := by decide +kernel
theorem dX5_tell_14 : decode cX5_tell 14 = .ok (.iload_n 1, 1) := by decide +kernel
theorem dX5_tell_15 : decode cX5_tell 15 = .ok (.iaload, 1) := by decide +kernel
theorem dX5_tell_16 : decode cX5_tell 16 = .ok (.ifCond .eq 22, 3) := by decide +kernel
theorem dX5_tell_19 : decode cX5_tell 19 = .ok (.aload_n 0, 1) := by decide +kernel
theorem dX5_tell_20 : decode cX5_tell 20 = .ok (.aload_n 0, 1) := by decide +kernel
theorem dX5_tell_21 : decode cX5_tell 21 = .ok (.getfield 41, 3) := by decide +kernel
theorem dX5_tell_24 : decode cX5_tell 24 = .ok (.iload_n 1, 1) := by decide +kernel
theorem dX5_tell_25 : decode cX5_tell 25 = .ok (.iaload, 1) := by decide +kernel
theorem dX5_tell_26 : decode cX5_tell 26 = .ok (.iconst 1, 1) := by decide +kernel
theorem dX5_tell_27 : decode cX5_tell 27 = .ok (.if_icmp .ne 7, 3) := by decide +kernel
theorem dX5_tell_30 : decode cX5_tell 30 = .ok (.iconst 2, 1) := by decide +kernel
theorem dX5_tell_31 : decode cX5_tell 31 = .ok (.goto 4, 3) := by decide +kernel
theorem dX5_tell_34 : decode cX5_tell 34 = .ok (.iconst 3, 1) := by decide +kernel
theorem dX5_tell_35 : decode cX5_tell 35 = .ok (.invokevirtual 253, 3) := by decide +kernel
theorem dX5_tell_38 : decode cX5_tell 38 = .ok (.aload_n 0, 1) := by decide +kernel
theorem dX5_tell_39 : decode cX5_tell 39 = .ok (.iconst 1, 1) := by decide +kernel
theorem dX5_tell_40 : decode cX5_tell 40 = .ok (.invokevirtual 253, 3) := by decide +kernel
theorem dX5_tell_43 : decode cX5_tell 43 = .ok (.aload_n 0, 1) := by decide +kernel
theorem dX5_tell_44 : decode cX5_tell 44 = .ok (.getfield 41, 3) := by decide +kernel
theorem dX5_tell_47 : decode cX5_tell 47 = .ok (.iload_n 1, 1) := by decide +kernel
theorem dX5_tell_48 : decode cX5_tell 48 = .ok (.iaload, 1) := by decide +kernel
theorem dX5_tell_49 : decode cX5_tell 49 = .ok (.ifCond .ne 12, 3) := by decide +kernel
theorem dX5_tell_52 : decode cX5_tell 52 = .ok (.aload_n 0, 1) := by decide +kernel
theorem dX5_tell_53 : decode cX5_tell 53 = .ok (.getfield 47, 3) := by decide +kernel
theorem dX5_tell_56 : decode cX5_tell 56 = .ok (.iload_n 1, 1) := by decide +kernel
theorem dX5_tell_57 : decode cX5_tell 57 = .ok (.iaload, 1) := by decide +kernel
theorem dX5_tell_58 : decode cX5_tell 58 = .ok (.goto 35, 3) := by decide +kernel
theorem dX5_tell_61 : decode cX5_tell 61 = .ok (.aload_n 0, 1) := by decide +kernel
theorem dX5_tell_62 : decode cX5_tell 62 = .ok (.getfield 41, 3) := by decide +kernel
theorem dX5_tell_65 : decode cX5_tell 65 = .ok (.iload_n 1, 1) := by decide +kernel
theorem dX5_tell_66 : decode cX5_tell 66 = .ok (.iaload, 1) := by decide +kernel
theorem dX5_tell_67 : decode cX5_tell 67 = .ok (.iconst 1, 1) := by decide +kernel
theorem dX5_tell_68 : decode cX5_tell 68 = .ok (.if_icmp .ne 16, 3) := by decide +kernel
theorem dX5_tell_71 : decode cX5_tell 71 = .ok (.sipush 1000, 3) := by decide +kernel
theorem dX5_tell_74 : decode cX5_tell 74 = .ok (.aload_n 0, 1) := by decide +kernel
theorem dX5_tell_75 : decode cX5_tell 75 = .ok (.getfield 47, 3) := by decide +kernel
theorem dX5_tell_78 : decode cX5_tell 78 = .ok (.iload_n 1, 1) := by decide +kernel
theorem dX5_tell_79 : decode cX5_tell 79 = .ok (.iaload, 1) := by decide +kernel
theorem dX5_tell_80 : decode cX5_tell 80 = .ok (.iadd, 1) := by decide +kernel
theorem dX5_tell_81 : decode cX5_tell 81 = .ok (.goto 12, 3) := by decide +kernel
theorem dX5_tell_84 : decode cX5_tell 84 = .ok (.aload_n 0, 1) := by decide +kernel
theorem dX5_tell_85 : decode cX5_tell 85 = .ok (.getfield 47, 3) := by decide +kernel
theorem dX5_tell_88 : decode cX5_tell 88 = .ok (.iload_n 1, 1) := by decide +kernel
theorem dX5_tell_89 : decode cX5_tell 89 = .ok (.iaload, 1) := by decide +kernel
theorem dX5_tell_90 : decode cX5_tell 90 = .ok (.ineg, 1) := by decide +kernel
theorem dX5_tell_91 : decode cX5_tell 91 = .ok (.iconst 1, 1) := by decide +kernel
theorem dX5_tell_92 : decode cX5_tell 92 = .ok (.isub, 1) := by decide +kernel
theorem dX5_tell_93 : decode cX5_tell 93 = .ok (.ireturn, 1) := by decide +kernel
theorem dX5_worth_0 : decode cX5_worth 0 = .ok (.aload_n 0, 1) := by decide +kernel
theorem dX5_worth_1 : decode cX5_worth 1 = .ok (.iload_n 1, 1) := by decide +kernel
theorem dX5_worth_2 : decode cX5_worth 2 = .ok (.invokevirtual 188, 3) := by decide +kernel
theorem dX5_worth_5 : decode cX5_worth 5 = .ok (.ifCond .eq 5, 3) := by decide +kernel
theorem dX5_worth_8 : decode cX5_worth 8 = .ok (.iconst (-1), 1) := by decide +kernel
theorem dX5_worth_9 : decode cX5_worth 9 = .ok (.ireturn, 1) := by decide +kernel
theorem dX5_worth_10 : decode cX5_worth 10 = .ok (.aload_n 0, 1) := by decide +kernel
theorem dX5_worth_11 : decode cX5_worth 11 = .ok (.aload_n 0, 1) := by decide +kernel
theorem dX5_worth_12 : decode cX5_worth 12 = .ok (.getfield 41, 3) := by decide +kernel
theorem dX5_worth_15 : decode cX5_worth 15 = .ok (.iload_n 1, 1) := by decide +kernel
theorem dX5_worth_16 : decode cX5_worth 16 = .ok (.iaload, 1) := by decide +kernel
theorem dX5_worth_17 : decode cX5_worth 17 = .ok (.iconst 2, 1) := by decide +kernel
theorem dX5_worth_18 : decode cX5_worth 18 = .ok (.if_icmp .ne 7, 3) := by decide +kernel
theorem dX5_worth_21 : decode cX5_worth 21 = .ok (.iconst 5, 1) := by decide +kernel
theorem dX5_worth_22 : decode cX5_worth 22 = .ok (.goto 4, 3) := by decide +kernel
theorem dX5_worth_25 : decode cX5_worth 25 = .ok (.iconst 4, 1) := by decide +kernel
theorem dX5_worth_26 : decode cX5_worth 26 = .ok (.invokevirtual 253, 3) := by decide +kernel
theorem dX5_worth_29 : decode cX5_worth 29 = .ok (.aload_n 0, 1) := by decide +kernel
theorem dX5_worth_30 : decode cX5_worth 30 = .ok (.iload_n 1, 1) := by decide +kernel
theorem dX5_worth_31 : decode cX5_worth 31 = .ok (.invokevirtual 201, 3) := by decide +kernel
theorem dX5_worth_34 : decode cX5_worth 34 = .ok (.ldc2_w 149, 3) := by decide +kernel
theorem dX5_worth_37 : decode cX5_worth 37 = .ok (.ldiv, 1) := by decide +kernel
theorem dX5_worth_38 : decode cX5_worth 38 = .ok (.lstore_n 2, 1) := by decide +kernel
theorem dX5_worth_39 : decode cX5_worth 39 = .ok (.aload_n 0, 1) := by decide +kernel
theorem dX5_worth_40 : decode cX5_worth 40 = .ok (.getfield 41, 3) := by decide +kernel
theorem dX5_worth_43 : decode cX5_worth 43 = .ok (.iload_n 1, 1) := by decide +kernel
theorem dX5_worth_44 : decode cX5_worth 44 = .ok (.iaload, 1) := by decide +kernel
theorem dX5_worth_45 : decode cX5_worth 45 = .ok (.iconst 2, 1) := by decide +kernel
theorem dX5_worth_46 : decode cX5_worth 46 = .ok (.if_icmp .ne 7, 3) := by decide +kernel
theorem dX5_worth_49 : decode cX5_worth 49 = .ok (.iconst 1, 1) := by decide +kernel
theorem dX5_worth_50 : decode cX5_worth 50 = .ok (.goto 19, 3) := by decide +kernel
theorem dX5_worth_53 : decode cX5_worth 53 = .ok (.lload_n 2, 1) := by decide +kernel
theorem dX5_worth_54 : decode cX5_worth 54 = .ok (.ldc2_w 256, 3) := by decide +kernel
theorem dX5_worth_57 : decode cX5_worth 57 = .ok (.lcmp, 1) := by decide +kernel
theorem dX5_worth_58 : decode cX5_worth 58 = .ok (.ifCond .le 9, 3) := by decide +kernel
theorem dX5_worth_61 : decode cX5_worth 61 = .ok (.ldc_w 258, 3) := by decide +kernel
theorem dX5_worth_64 : decode cX5_worth 64 = .ok (.goto 5, 3) := by decide +kernel
theorem dX5_worth_67 : decode cX5_worth 67 = .ok (.lload_n 2, 1) := by decide +kernel
theorem dX5_worth_68 : decode cX5_worth 68 = .ok (.l2i, 1) := by decide +kernel
theorem dX5_worth_69 : decode cX5_worth 69 = .ok (.ireturn, 1) := by decide +kernel
theorem dX5_as_0 : decode cX5_as 0 = .ok (.aload_n 0, 1) := by decide +kernel
theorem dX5_as_1 : decode cX5_as 1 = .ok (.iload_n 1, 1) := by decide +kernel
theorem dX5_as_2 : decode cX5_as 2 = .ok (.invokevirtual 188, 3) := by decide +kernel
theorem dX5_as_5 : decode cX5_as 5 = .ok (.ifCond .eq 9, 3) := by decide +kernel
theorem dX5_as_8 : decode cX5_as 8 = .ok (.aload_n 0, 1) := by decide +kernel
theorem dX5_as_9 : decode cX5_as 9 = .ok (.iconst (-1), 1) := by decide +kernel
theorem dX5_as_10 : decode cX5_as 10 = .ok (.invokevirtual 233, 3) := by decide +kernel
theorem dX5_as_13 : decode cX5_as 13 = .ok (.ireturn, 1) := by decide +kernel
theorem dX5_as_14 : decode cX5_as 14 = .ok (.iload_n 2, 1) := by decide +kernel
theorem dX5_as_15 : decode cX5_as 15 = .ok (.i2l, 1) := by decide +kernel
theorem dX5_as_16 : decode cX5_as 16 = .ok (.lconst 0, 1) := by decide +kernel
theorem dX5_as_17 : decode cX5_as 17 = .ok (.ldc2_w 96, 3) := by decide +kernel
theorem dX5_as_20 : decode cX5_as 20 = .ok (.invokestatic 101, 3) := by decide +kernel
theorem dX5_as_23 : decode cX5_as 23 = .ok (.ifCond .ne 10, 3) := by decide +kernel
theorem dX5_as_26 : decode cX5_as 26 = .ok (.aload_n 0, 1) := by decide +kernel
theorem dX5_as_27 : decode cX5_as 27 = .ok (.bipush (-2), 2) := by decide +kernel
theorem dX5_as_29 : decode cX5_as 29 = .ok (.invokevirtual 233, 3) := by decide +kernel
theorem dX5_as_32 : decode cX5_as 32 = .ok (.ireturn, 1) := by decide +kernel
theorem dX5_as_33 : decode cX5_as 33 = .ok (.aload_n 0, 1) := by decide +kernel
theorem dX5_as_34 : decode cX5_as 34 = .ok (.getfield 41, 3) := by decide +kernel
theorem dX5_as_37 : decode cX5_as 37 = .ok (.iload_n 1, 1) := by decide +kernel
theorem dX5_as_38 : decode cX5_as 38 = .ok (.iaload, 1) := by decide +kernel
theorem dX5_as_39 : decode cX5_as 39 = .ok (.iload_n 2, 1) := by decide +kernel
theorem dX5_as_40 : decode cX5_as 40 = .ok (.if_icmp .lt 11, 3) := by decide +kernel
theorem dX5_as_43 : decode cX5_as 43 = .ok (.aload_n 0, 1) := by decide +kernel
theorem dX5_as_44 : decode cX5_as 44 = .ok (.iconst 1, 1) := by decide +kernel
theorem dX5_as_45 : decode cX5_as 45 = .ok (.invokevirtual 233, 3) := by decide +kernel
theorem dX5_as_48 : decode cX5_as 48 = .ok (.goto 8, 3) := by decide +kernel
theorem dX5_as_51 : decode cX5_as 51 = .ok (.aload_n 0, 1) := by decide +kernel
theorem dX5_as_52 : decode cX5_as 52 = .ok (.iconst 2, 1) := by decide +kernel
theorem dX5_as_53 : decode cX5_as 53 = .ok (.invokevirtual 237, 3) := by decide +kernel
theorem dX5_as_56 : decode cX5_as 56 = .ok (.ireturn, 1) := by decide +kernel
theorem dX5_trace_0 : decode cX5_trace 0 = .ok (.aload_n 0, 1) := by decide +kernel
theorem dX5_trace_1 : decode cX5_trace 1 = .ok (.getfield 250, 3) := by decide +kernel
theorem dX5_trace_4 : decode cX5_trace 4 = .ok (.ireturn, 1) := by decide +kernel
theorem dX5_fault_0 : decode cX5_fault 0 = .ok (.aload_n 0, 1) := by decide +kernel
theorem dX5_fault_1 : decode cX5_fault 1 = .ok (.getfield 89, 3) := by decide +kernel
theorem dX5_fault_4 : decode cX5_fault 4 = .ok (.ireturn, 1) := by decide +kernel
theorem dX5_told_0 : decode cX5_told 0 = .ok (.iconst 0, 1) := by decide +kernel
theorem dX5_told_1 : decode cX5_told 1 = .ok (.istore_n 2, 1) := by decide +kernel
theorem dX5_told_2 : decode cX5_told 2 = .ok (.iload_n 1, 1) := by decide +kernel
theorem dX5_told_3 : decode cX5_told 3 = .ok (.tableswitch 79 0 3 #[29, 34, 39, 74], 29) := by decide +kernel
theorem dX5_told_32 : decode cX5_told 32 = .ok (.aload_n 0, 1) := by decide +kernel
theorem dX5_told_33 : decode cX5_told 33 = .ok (.getfield 98, 3) := by decide +kernel
theorem dX5_told_36 : decode cX5_told 36 = .ok (.ireturn, 1) := by decide +kernel
theorem dX5_told_37 : decode cX5_told 37 = .ok (.aload_n 0, 1) := by decide +kernel
theorem dX5_told_38 : decode cX5_told 38 = .ok (.getfield 176, 3) := by decide +kernel
theorem dX5_told_41 : decode cX5_told 41 = .ok (.ireturn, 1) := by decide +kernel
theorem dX5_told_42 : decode cX5_told 42 = .ok (.iconst 0, 1) := by decide +kernel
theorem dX5_told_43 : decode cX5_told 43 = .ok (.istore_n 3, 1) := by decide +kernel
theorem dX5_told_44 : decode cX5_told 44 = .ok (.iload_n 3, 1) := by decide +kernel
theorem dX5_told_45 : decode cX5_told 45 = .ok (.aload_n 0, 1) := by decide +kernel
theorem dX5_told_46 : decode cX5_told 46 = .ok (.getfield 176, 3) := by decide +kernel
theorem dX5_told_49 : decode cX5_told 49 = .ok (.if_icmp .ge 26, 3) := by decide +kernel
theorem dX5_told_52 : decode cX5_told 52 = .ok (.iload_n 2, 1) := by decide +kernel
theorem dX5_told_53 : decode cX5_told 53 = .ok (.aload_n 0, 1) := by decide +kernel
theorem dX5_told_54 : decode cX5_told 54 = .ok (.getfield 59, 3) := by decide +kernel
theorem dX5_told_57 : decode cX5_told 57 = .ok (.iload_n 3, 1) := by decide +kernel
theorem dX5_told_58 : decode cX5_told 58 = .ok (.iaload, 1) := by decide +kernel
theorem dX5_told_59 : decode cX5_told 59 = .ok (.ifCond .ge 7, 3) := by decide +kernel
theorem dX5_told_62 : decode cX5_told 62 = .ok (.iconst 1, 1) := by decide +kernel
theorem dX5_told_63 : decode cX5_told 63 = .ok (.goto 4, 3) := by decide +kernel
theorem dX5_told_66 : decode cX5_told 66 = .ok (.iconst 0, 1) := by decide +kernel
theorem dX5_told_67 : decode cX5_told 67 = .ok (.iadd, 1) := by decide +kernel
theorem dX5_told_68 : decode cX5_told 68 = .ok (.istore_n 2, 1) := by decide +kernel
theorem dX5_told_69 : decode cX5_told 69 = .ok (.iinc 3 1, 3) := by decide +kernel
theorem dX5_told_72 : decode cX5_told 72 = .ok (.goto (-28), 3) := by decide +kernel
theorem dX5_told_75 : decode cX5_told 75 = .ok (.iload_n 2, 1) := by decide +kernel
theorem dX5_told_76 : decode cX5_told 76 = .ok (.ireturn, 1) := by decide +kernel
theorem dX5_told_77 : decode cX5_told 77 = .ok (.aload_n 0, 1) := by decide +kernel
theorem dX5_told_78 : decode cX5_told 78 = .ok (.getfield 80, 3) := by decide +kernel
theorem dX5_told_81 : decode cX5_told 81 = .ok (.ireturn, 1) := by decide +kernel
theorem dX5_told_82 : decode cX5_told 82 = .ok (.iload_n 1, 1) := by decide +kernel
theorem dX5_told_83 : decode cX5_told 83 = .ok (.i2l, 1) := by decide +kernel
theorem dX5_told_84 : decode cX5_told 84 = .ok (.ldc2_w 199, 3) := by decide +kernel
theorem dX5_told_87 : decode cX5_told 87 = .ok (.ldc2_w 259, 3) := by decide +kernel
theorem dX5_told_90 : decode cX5_told 90 = .ok (.aload_n 0, 1) := by decide +kernel
theorem dX5_told_91 : decode cX5_told 91 = .ok (.getfield 98, 3) := by decide +kernel
theorem dX5_told_94 : decode cX5_told 94 = .ok (.i2l, 1) := by decide +kernel
theorem dX5_told_95 : decode cX5_told 95 = .ok (.ladd, 1) := by decide +kernel
theorem dX5_told_96 : decode cX5_told 96 = .ok (.invokestatic 101, 3) := by decide +kernel
theorem dX5_told_99 : decode cX5_told 99 = .ok (.ifCond .eq 15, 3) := by decide +kernel
theorem dX5_told_102 : decode cX5_told 102 = .ok (.aload_n 0, 1) := by decide +kernel
theorem dX5_told_103 : decode cX5_told 103 = .ok (.getfield 13, 3) := by decide +kernel
theorem dX5_told_106 : decode cX5_told 106 = .ok (.iload_n 1, 1) := by decide +kernel
theorem dX5_told_107 : decode cX5_told 107 = .ok (.bipush 10, 2) := by decide +kernel
theorem dX5_told_109 : decode cX5_told 109 = .ok (.isub, 1) := by decide +kernel
theorem dX5_told_110 : decode cX5_told 110 = .ok (.iaload, 1) := by decide +kernel
theorem dX5_told_111 : decode cX5_told 111 = .ok (.goto 5, 3) := by decide +kernel
theorem dX5_told_114 : decode cX5_told 114 = .ok (.bipush (-2), 2) := by decide +kernel
theorem dX5_told_116 : decode cX5_told 116 = .ok (.ireturn, 1) := by decide +kernel
theorem dJ9_abs_067f4_0 : decode cJ9_abs_067f4 0 = .ok (.lload_n 0, 1) := by decide +kernel
theorem dJ9_abs_067f4_1 : decode cJ9_abs_067f4 1 = .ok (.lconst 0, 1) := by decide +kernel
theorem dJ9_abs_067f4_2 : decode cJ9_abs_067f4 2 = .ok (.lcmp, 1) := by decide +kernel
theorem dJ9_abs_067f4_3 : decode cJ9_abs_067f4 3 = .ok (.ifCond .ge 8, 3) := by decide +kernel
theorem dJ9_abs_067f4_6 : decode cJ9_abs_067f4 6 = .ok (.lload_n 0, 1) := by decide +kernel
theorem dJ9_abs_067f4_7 : decode cJ9_abs_067f4 7 = .ok (.lneg, 1) := by decide +kernel
theorem dJ9_abs_067f4_8 : decode cJ9_abs_067f4 8 = .ok (.goto 4, 3) := by decide +kernel
theorem dJ9_abs_067f4_11 : decode cJ9_abs_067f4 11 = .ok (.lload_n 0, 1) := by decide +kernel
theorem dJ9_abs_067f4_12 : decode cJ9_abs_067f4 12 = .ok (.lreturn, 1) := by decide +kernel
theorem dJ9_max_7cf53_0 : decode cJ9_max_7cf53 0 = .ok (.iload_n 0, 1) := by decide +kernel
theorem dJ9_max_7cf53_1 : decode cJ9_max_7cf53 1 = .ok (.iload_n 1, 1) := by decide +kernel
theorem dJ9_max_7cf53_2 : decode cJ9_max_7cf53 2 = .ok (.if_icmp .lt 7, 3) := by decide +kernel
theorem dJ9_max_7cf53_5 : decode cJ9_max_7cf53 5 = .ok (.iload_n 0, 1) := by decide +kernel
theorem dJ9_max_7cf53_6 : decode cJ9_max_7cf53 6 = .ok (.goto 4, 3) := by decide +kernel
theorem dJ9_max_7cf53_9 : decode cJ9_max_7cf53 9 = .ok (.iload_n 1, 1) := by decide +kernel
theorem dJ9_max_7cf53_10 : decode cJ9_max_7cf53 10 = .ok (.ireturn, 1) := by decide +kernel
theorem dJ9_max_f86c9_0 : decode cJ9_max_f86c9 0 = .ok (.lload_n 0, 1) := by decide +kernel
theorem dJ9_max_f86c9_1 : decode cJ9_max_f86c9 1 = .ok (.lload_n 2, 1) := by decide +kernel
theorem dJ9_max_f86c9_2 : decode cJ9_max_f86c9 2 = .ok (.lcmp, 1) := by decide +kernel
theorem dJ9_max_f86c9_3 : decode cJ9_max_f86c9 3 = .ok (.ifCond .lt 7, 3) := by decide +kernel
theorem dJ9_max_f86c9_6 : decode cJ9_max_f86c9 6 = .ok (.lload_n 0, 1) := by decide +kernel
theorem dJ9_max_f86c9_7 : decode cJ9_max_f86c9 7 = .ok (.goto 4, 3) := by decide +kernel
theorem dJ9_max_f86c9_10 : decode cJ9_max_f86c9 10 = .ok (.lload_n 2, 1) := by decide +kernel
theorem dJ9_max_f86c9_11 : decode cJ9_max_f86c9 11 = .ok (.lreturn, 1) := by decide +kernel
theorem dJ9_min_f86c9_0 : decode cJ9_min_f86c9 0 = .ok (.lload_n 0, 1) := by decide +kernel
theorem dJ9_min_f86c9_1 : decode cJ9_min_f86c9 1 = .ok (.lload_n 2, 1) := by decide +kernel
theorem dJ9_min_f86c9_2 : decode cJ9_min_f86c9 2 = .ok (.lcmp, 1) := by decide +kernel
theorem dJ9_min_f86c9_3 : decode cJ9_min_f86c9 3 = .ok (.ifCond .gt 7, 3) := by decide +kernel
theorem dJ9_min_f86c9_6 : decode cJ9_min_f86c9 6 = .ok (.lload_n 0, 1) := by decide +kernel
theorem dJ9_min_f86c9_7 : decode cJ9_min_f86c9 7 = .ok (.goto 4, 3) := by decide +kernel
theorem dJ9_min_f86c9_10 : decode cJ9_min_f86c9 10 = .ok (.lload_n 2, 1) := by decide +kernel
theorem dJ9_min_f86c9_11 : decode cJ9_min_f86c9 11 = .ok (.lreturn, 1) := by decide +kernel
theorem dJ7_fill_53178_0 : decode cJ7_fill_53178 0 = .ok (.iconst 0, 1) := by decide +kernel
theorem dJ7_fill_53178_1 : decode cJ7_fill_53178 1 = .ok (.istore_n 2, 1) := by decide +kernel
theorem dJ7_fill_53178_2 : decode cJ7_fill_53178 2 = .ok (.aload_n 0, 1) := by decide +kernel
theorem dJ7_fill_53178_3 : decode cJ7_fill_53178 3 = .ok (.arraylength, 1) := by decide +kernel
theorem dJ7_fill_53178_4 : decode cJ7_fill_53178 4 = .ok (.istore_n 3, 1) := by decide +kernel
theorem dJ7_fill_53178_5 : decode cJ7_fill_53178 5 = .ok (.iload_n 2, 1) := by decide +kernel
theorem dJ7_fill_53178_6 : decode cJ7_fill_53178 6 = .ok (.iload_n 3, 1) := by decide +kernel
theorem dJ7_fill_53178_7 : decode cJ7_fill_53178 7 = .ok (.if_icmp .ge 13, 3) := by decide +kernel
theorem dJ7_fill_53178_10 : decode cJ7_fill_53178 10 = .ok (.aload_n 0, 1) := by decide +kernel
theorem dJ7_fill_53178_11 : decode cJ7_fill_53178 11 = .ok (.iload_n 2, 1) := by decide +kernel
theorem dJ7_fill_53178_12 : decode cJ7_fill_53178 12 = .ok (.iload_n 1, 1) := by decide +kernel
theorem dJ7_fill_53178_13 : decode cJ7_fill_53178 13 = .ok (.iastore, 1) := by decide +kernel
theorem dJ7_fill_53178_14 : decode cJ7_fill_53178 14 = .ok (.iinc 2 1, 3) := by decide +kernel
theorem dJ7_fill_53178_17 : decode cJ7_fill_53178 17 = .ok (.goto (-12), 3) := by decide +kernel
theorem dJ7_fill_53178_20 : decode cJ7_fill_53178 20 = .ok (.return_, 1) := by decide +kernel
end
section
/-! ===== BASE: pictures of objects (kind, index), rows that read and write them, calls, branches by numbers ===== -/
/-- the data: numbers (32 bits) and long numbers by kind, index, place -/
abbrev Dt : Type := (Nat → Nat → Nat → Int32) × (Nat → Nat → Nat → Int64)
def uv (d : Dt) (k i j : Nat) (x : Int32) : Dt := (fun k' => if k' = k then (fun i' => if i' = i then (fun j' => if j' = j then x else d.1 k i j') else d.1 k i') else d.1 k', d.2)
def uw (d : Dt) (k i j : Nat) (x : Int64) : Dt := (d.1, fun k' => if k' = k then (fun i' => if i' = i then (fun j' => if j' = j then x else d.2 k i j') else d.2 k i') else d.2 k')
def uf (d : Dt) (k i : Nat) (f : Nat → Int32) : Dt := (fun k' => if k' = k then (fun i' => if i' = i then f else d.1 k i') else d.1 k', d.2)
theorem uv_row (d : Dt) (k i j : Nat) (x : Int32) : (uv d k i j x).1 k i = upd (d.1 k i) j x := by
  funext j'; simp [uv, upd]
theorem uw_row (d : Dt) (k i j : Nat) (x : Int64) : (uw d k i j x).2 k i = vp_updL (d.2 k i) j x := by
  funext j'; simp [uw, vp_updL]
theorem uf_row (d : Dt) (k i : Nat) (f : Nat → Int32) : (uf d k i f).1 k i = f := by
  funext j'; simp [uf]
theorem uv_off (d : Dt) (k i j : Nat) (x : Int32) (k' i' : Nat) (h : ¬ (k' = k ∧ i' = i)) : (uv d k i j x).1 k' i' = d.1 k' i' := by
  funext j'
  by_cases h1 : k' = k
  · subst h1
    by_cases h2 : i' = i
    · exact absurd ⟨rfl, h2⟩ h
    · simp [uv, h2]
  · simp [uv, h1]
theorem uw_off (d : Dt) (k i j : Nat) (x : Int64) (k' i' : Nat) (h : ¬ (k' = k ∧ i' = i)) : (uw d k i j x).2 k' i' = d.2 k' i' := by
  funext j'
  by_cases h1 : k' = k
  · subst h1
    by_cases h2 : i' = i
    · exact absurd ⟨rfl, h2⟩ h
    · simp [uw, h2]
  · simp [uw, h1]
theorem uf_off (d : Dt) (k i : Nat) (f : Nat → Int32) (k' i' : Nat) (h : ¬ (k' = k ∧ i' = i)) : (uf d k i f).1 k' i' = d.1 k' i' := by
  funext j'
  by_cases h1 : k' = k
  · subst h1
    by_cases h2 : i' = i
    · exact absurd ⟨rfl, h2⟩ h
    · simp [uf, h2]
  · simp [uf, h1]
/-- choices and truth values -/
noncomputable def cif {α : Type _} (P : Prop) (a b : α) : α := @ite α P (Classical.propDecidable P) a b
theorem cif_t {α : Type _} {P : Prop} {a b : α} (h : P) : cif P a b = a := by unfold cif; exact if_pos h
theorem cif_f {α : Type _} {P : Prop} {a b : α} (h : ¬ P) : cif P a b = b := by unfold cif; exact if_neg h
noncomputable def b2i (P : Prop) : Int32 := cif P 1 0
theorem b2i_t {P : Prop} (h : P) : b2i P = 1 := cif_t h
theorem b2i_f {P : Prop} (h : ¬ P) : b2i P = 0 := cif_f h
theorem b2i_nar (P : Prop) : narrow .boolean (.int (b2i P)) = .int (b2i P) := by
  by_cases h : P
  · rw [b2i_t h]; rfl
  · rw [b2i_f h]; rfl
theorem b2i_T : b2i True = 1 := b2i_t trivial
theorem b2i_F : b2i False = 0 := b2i_f id
abbrev ix (x : Int32) : Nat := x.toNatClampNeg
theorem vi {x : Int32} {n : Nat} (h0 : 0 ≤ x.toInt) (h1 : x.toInt < (n : Int)) : vp_in x n := vp_in_iff.mpr ⟨h0, h1⟩
theorem ix_int {x : Int32} (h : 0 ≤ x.toInt) : ((ix x : Nat) : Int) = x.toInt := by
  show ((x.toInt.toNat : Nat) : Int) = x.toInt
  omega
/-- a picture: the cells of all kinds and indices, apart -/
def PIC (D : va_G) (F : Nat → Nat → (Nat → Int32) → (Nat → Int64) → va_E) (n : Nat → Nat) (ad : Nat → Nat → Nat) (d : Dt) (H : Heap) : Prop :=
  (∀ k i, i < n k → va_at D vwCl (ad k i, F k i (d.1 k i) (d.2 k i)) H) ∧ ∀ k i k' i', i < n k → i' < n k' → ad k i = ad k' i' → k = k' ∧ i = i'
/-- the addresses of a picture -/
def adS (n : Nat → Nat) (ad : Nat → Nat → Nat) : Nat → Prop := fun q => ∃ k i, i < n k ∧ q = ad k i
theorem adS_in {n : Nat → Nat} {ad : Nat → Nat → Nat} {k i : Nat} (h : i < n k) : adS n ad (ad k i) := ⟨k, i, h, rfl⟩
theorem PIC.put {D : va_G} {F : Nat → Nat → (Nat → Int32) → (Nat → Int64) → va_E} {n : Nat → Nat} {ad : Nat → Nat → Nat} {d d' : Dt} {H H1 : Heap} (h : PIC D F n ad d H) {k i : Nat} (hi : i < n k)
    (h1 : ∀ k' i', ¬ (k' = k ∧ i' = i) → d'.1 k' i' = d.1 k' i' ∧ d'.2 k' i' = d.2 k' i') (e : va_at D vwCl (ad k i, F k i (d'.1 k i) (d'.2 k i)) H1) (oq : ∀ q, q ≠ ad k i → H1[q]? = H[q]?) : PIC D F n ad d' H1 := by
  refine ⟨fun k' i' hk => ?_, h.2⟩
  by_cases q : k' = k ∧ i' = i
  · obtain ⟨rfl, rfl⟩ := q
    exact e
  · rw [(h1 _ _ q).1, (h1 _ _ q).2]
    exact (h.1 k' i' hk).kept (oq _ (fun z => q (h.2 k' i' k i hk hi z)))
theorem PIC.kept {D : va_G} {F : Nat → Nat → (Nat → Int32) → (Nat → Int64) → va_E} {n : Nat → Nat} {ad : Nat → Nat → Nat} {d : Dt} {H H1 : Heap} (h : PIC D F n ad d H) (oq : ∀ q, adS n ad q → H1[q]? = H[q]?) : PIC D F n ad d H1 :=
  ⟨fun k i hk => (h.1 k i hk).kept (oq _ ⟨k, i, hk, rfl⟩), h.2⟩
theorem PIC.lt {D : va_G} {F : Nat → Nat → (Nat → Int32) → (Nat → Int64) → va_E} {n : Nat → Nat} {ad : Nat → Nat → Nat} {d : Dt} {H : Heap} (h : PIC D F n ad d H) {k i : Nat} (hi : i < n k) : ad k i < H.size := (h.1 k i hi).lt
/-- an answer, and an old heap as it was -/
def qV (v : Option Value) : Array Value → State → Outcome → State → Prop := fun _ st o t => o = .returned v ∧ t.heap = st.heap
/-- an answer, and a picture anew; what is not of the picture stays -/
def qW (v : Option Value) (D : va_G) (F : Nat → Nat → (Nat → Int32) → (Nat → Int64) → va_E) (n : Nat → Nat) (ad : Nat → Nat → Nat) (d : Dt) : Array Value → State → Outcome → State → Prop := fun _ st o t => o = .returned v ∧ PIC D F n ad d t.heap ∧ va_F (adS n ad) st t
abbrev wsU (y : MethodName) (b : ByteArray) (n : Nat) (r : Option FieldType) : List Cond := Cond.code y b n r :: wsL_law
theorem goodU {cy : Cond} {y : MethodName} {b : ByteArray} {n : Nat} {r : Option FieldType} (h : Cond.code y b n r ∈ wsL_law) : GoodIn (cy :: wsL_law) (wsU y b n r) := by
  intro w hw
  rcases List.mem_cons.mp hw with rfl | hw
  · exact ⟨List.mem_cons_of_mem _ h, (wsL_good _ h).2⟩
  · exact ⟨List.mem_cons_of_mem _ hw, (wsL_good _ hw).2⟩
theorem goodUL {y : MethodName} {b : ByteArray} {n : Nat} {r : Option FieldType} (h : Cond.code y b n r ∈ wsL_law) : GoodIn wsL_law (wsU y b n r) := by
  intro w hw
  rcases List.mem_cons.mp hw with rfl | hw
  · exact ⟨h, (wsL_good _ h).2⟩
  · exact ⟨hw, (wsL_good _ hw).2⟩
section BASE
variable {p : Program} {l : Launch} {e : Env} {R : Room} {s : State} {m : MethodId} {args : Array Value} {below : List Frame} {meth : Method} {c : Code} {H : Heap} {locs : List Loc} {cells slots : Nat} {Q : State → Prop}
variable {cc : ByteArray} {nL pc : Nat} {ls : Array Slot} {rest : List Value} {D : va_G} {A : Nat → Prop} {tys : List (ClassId × FieldType)} {H0 : Heap} {Ts : List Cond} {own : String}
variable {F : Nat → Nat → (Nat → Int32) → (Nat → Int64) → va_E} {n : Nat → Nat} {ad : Nat → Nat → Nat} {d : Dt}
theorem xget (S : CallFix p m c cc nL s args Ts own) {C : String} {T : u_T} {N ci index : Nat} (hin : ∀ w ∈ u_ws C T N, w ∈ Ts) (hK : va_K D vwCl tys s) (hX : PIC D F n ad d H) {k i : Nat} (hi : i < n k) {fs : List Value} (hF : F k i (d.1 k i) (d.2 k i) = .inr (ci, fs)) (hc : vwCl[ci]? = some (C, T, N)) (f : Nat) (hf : f < N)
    (hlink : Cond.fieldLink own index C (T f).2.1 (T f).2.2.1 ∈ Ts) (ho : (T f).1 = C) {v : Value} (hv : fs[f]? = some v) (hdg : decode cc pc = .ok (.getfield index, 3))
    (kk : W p l e R s m args below meth c H locs cells slots Q (F0 m (pc + 3) ls (v :: rest))) : W p l e R s m args below meth c H locs cells slots Q (F0 m pc ls (.ref (ad k i) :: rest)) := by
  obtain ⟨hx, hb, hml, hown, hts⟩ := S
  have h1 := hX.1 k i hi
  rw [hF] at h1
  have hP : va_P D vwCl [(ad k i, .inr (ci, fs))] H := fun j q hq => by
    have hz : j < 1 := (List.getElem?_eq_some_iff.mp hq).1
    rw [show j = 0 by omega] at hq
    cases hq
    exact h1
  exact va_get hx hb hts hin hown hK hP 0 rfl hc f hf (hts _ hlink) (fun x h => by rw [ho] at h; exact h) hv hdg kk
theorem xput (S : CallFix p m c cc nL s args Ts own) {C : String} {T : u_T} {N ci index : Nat} (hin : ∀ w ∈ u_ws C T N, w ∈ Ts) (ty0 : Nat → FieldType) (hty : ∀ k, k < N → parseFieldDescriptor (T k).2.2.1 = some (ty0 k)) (hnm : ∀ a, a < N → ∀ b, b < N → a ≠ b → (T a).2.1 ≠ (T b).2.1)
    (hK : va_K D vwCl tys s) (hX : PIC D F n ad d H) (hS : va_S A H0 H locs) {k i : Nat} (hi : i < n k) (hA : A (ad k i)) {fs : List Value} (hF : F k i (d.1 k i) (d.2 k i) = .inr (ci, fs)) (hc : vwCl[ci]? = some (C, T, N)) (f : Nat) (hf : f < N) (hfin : (T f).2.2.2 = false)
    (hlink : Cond.fieldLink own index C (T f).2.1 (T f).2.2.1 ∈ Ts) (ho : (T f).1 = C) {x : Int32} {ty : FieldType} (hd : ty0 f = ty) (hn : narrow ty (.int x) = .int x) (hfit : fits ty (.int x) = true) (hl : f < fs.length) (hF' : F k i (upd (d.1 k i) f x) (d.2 k i) = .inr (ci, fs.set f (.int x))) (hdg : decode cc pc = .ok (.putfield index, 3))
    (kk : ∀ (H1 : Heap) (locs1 : List Loc), PIC D F n ad (uv d k i f x) H1 → va_S A H0 H1 locs1 → W p l e R s m args below meth c H1 locs1 cells slots Q (F0 m (pc + 3) ls rest)) : W p l e R s m args below meth c H locs cells slots Q (F0 m pc ls (.int x :: .ref (ad k i) :: rest)) := by
  obtain ⟨hx, hb, hml, hown, hts⟩ := S
  subst hd
  have h1 := hX.1 k i hi
  rw [hF] at h1
  have hap := va_apart (own := own) hts hin ty0 hty hnm hK hc
  obtain ⟨r, g1, cell, q1, q2, q3, q4⟩ := h1
  have hr : r = (C, T, N) := Option.some.inj (g1.symm.trans hc)
  subst hr
  obtain ⟨hSl, hfc, kC, hkC, hkind⟩ := hK.1 ci _ hc
  obtain ⟨cf, kf, fi, fd, hfd, hsl⟩ := hSl f hf
  have hlay := hts _ (hin _ (u_in_lay hf))
  unfold u_lay at hlay
  rw [if_neg (by rw [hfin]; decide)] at hlay
  have hst := (u_facts hfc hkC (u_lays hts hin hf) hfd).1
  have h6 := u_store hfc hkC hkind hlay hfd (hty f hf) hn hfit
  have hfd' : s.fieldFound? C (T f).2.1 (T f).2.2.1 = some (cf, kf, fi, fd) := by rw [← ho]; rw [← hfd]
  refine W.putK hx hb (f := fd) ⟨hown, hts _ hlink, ⟨_, _, _, hfd'⟩, hst⟩ (by rw [q2]; exact h6) q1 q3 (by rw [hsl]; exact k2_hasslot (q4 f hf)) rfl rfl hdg fun H' e1 e2 e3 => ?_
  rw [hsl] at e1 ⊢
  refine kk H' _ (hX.put hi (fun k' i' hq => ⟨uv_off d k i f x k' i' hq, rfl⟩) ?_ e3) (hS.put e2 e3 hA)
  rw [uv_row]
  show va_at D vwCl (ad k i, F k i (upd (d.1 k i) f x) (d.2 k i)) H'
  rw [hF']
  exact ⟨_, hc, t_OB.to (V := updV (vp_V fs) f (.int x)) ⟨_, e1, q2, q3, t_set q4 hap hf (.int x)⟩ (fun j _ => vp_updV_set hl (.int x) j)⟩
theorem xiald (S : CallFix p m c cc nL s args Ts own) (hK : va_K D vwCl tys s) (hX : PIC D F n ad d H) {k i : Nat} (hi : i < n k) (t0 : Nat) {cA : ClassId} {N : Nat} (hF : F k i (d.1 k i) (d.2 k i) = .inl (cA, N, .inl (d.1 k i))) (ht : tys[t0]? = some (cA, .int)) {x : Int32} (hin : vp_in x N) {z : Int32} (hv : d.1 k i (ix x) = z) (hdg : decode cc pc = .ok (.iaload, 1))
    (kk : W p l e R s m args below meth c H locs cells slots Q (F0 m (pc + 1) ls (.int z :: rest))) : W p l e R s m args below meth c H locs cells slots Q (F0 m pc ls (.int x :: .ref (ad k i) :: rest)) := by
  obtain ⟨hx, hb, hml, hown, hts⟩ := S
  subst hv
  have h1 := hX.1 k i hi
  rw [hF] at h1
  have hP : va_P D vwCl [(ad k i, .inl (cA, N, .inl (d.1 k i)))] H := fun j q hq => by
    have hz : j < 1 := (List.getElem?_eq_some_iff.mp hq).1
    rw [show j = 0 by omega] at hq
    cases hq
    exact h1
  exact va_iald hx hb hK hP 0 t0 rfl ht hin hdg kk
theorem xlald (S : CallFix p m c cc nL s args Ts own) (hK : va_K D vwCl tys s) (hX : PIC D F n ad d H) {k i : Nat} (hi : i < n k) (t0 : Nat) {cA : ClassId} {N : Nat} (hF : F k i (d.1 k i) (d.2 k i) = .inl (cA, N, .inr (.inl (d.2 k i)))) (ht : tys[t0]? = some (cA, .long)) {x : Int32} (hin : vp_in x N) {z : Int64} (hv : d.2 k i (ix x) = z) (hdg : decode cc pc = .ok (.laload, 1))
    (kk : W p l e R s m args below meth c H locs cells slots Q (F0 m (pc + 1) ls (.long z :: rest))) : W p l e R s m args below meth c H locs cells slots Q (F0 m pc ls (.int x :: .ref (ad k i) :: rest)) := by
  obtain ⟨hx, hb, hml, hown, hts⟩ := S
  subst hv
  have h1 := hX.1 k i hi
  rw [hF] at h1
  have hP : va_P D vwCl [(ad k i, .inl (cA, N, .inr (.inl (d.2 k i))))] H := fun j q hq => by
    have hz : j < 1 := (List.getElem?_eq_some_iff.mp hq).1
    rw [show j = 0 by omega] at hq
    cases hq
    exact h1
  exact va_lald hx hb hK hP 0 t0 rfl ht hin hdg kk
theorem xaald (S : CallFix p m c cc nL s args Ts own) (hK : va_K D vwCl tys s) (hX : PIC D F n ad d H) {k i : Nat} (hi : i < n k) (t0 : Nat) {cA : ClassId} {N : Nat} {C : String} {f : Nat → Option Nat} (hF : F k i (d.1 k i) (d.2 k i) = .inl (cA, N, .inr (.inr (.inr (.inr f))))) (ht : tys[t0]? = some (cA, .object C)) {x : Int32} (hin : vp_in x N) {q : Nat} (hv : f (ix x) = some q) (hdg : decode cc pc = .ok (.aaload, 1))
    (kk : W p l e R s m args below meth c H locs cells slots Q (F0 m (pc + 1) ls (.ref q :: rest))) : W p l e R s m args below meth c H locs cells slots Q (F0 m pc ls (.int x :: .ref (ad k i) :: rest)) := by
  obtain ⟨hx, hb, hml, hown, hts⟩ := S
  have h1 := hX.1 k i hi
  rw [hF] at h1
  have hP : va_P D vwCl [(ad k i, .inl (cA, N, .inr (.inr (.inr (.inr f)))))] H := fun j q hq => by
    have hz : j < 1 := (List.getElem?_eq_some_iff.mp hq).1
    rw [show j = 0 by omega] at hq
    cases hq
    exact h1
  refine va_aldq hx hb hK hP 0 t0 rfl ht hin hdg ?_
  have hv' : f x.toNatClampNeg = some q := hv
  rw [hv']
  exact kk
theorem xiast (S : CallFix p m c cc nL s args Ts own) (hK : va_K D vwCl tys s) (hX : PIC D F n ad d H) (hS : va_S A H0 H locs) {k i : Nat} (hi : i < n k) (hA : A (ad k i)) (t0 : Nat) {cA : ClassId} {N : Nat} (hF : ∀ f, F k i f (d.2 k i) = .inl (cA, N, .inl f)) (ht : tys[t0]? = some (cA, .int)) {x z : Int32} (hin : vp_in x N) (hdg : decode cc pc = .ok (.iastore, 1))
    (kk : ∀ (H1 : Heap) (locs1 : List Loc), PIC D F n ad (uv d k i (ix x) z) H1 → va_S A H0 H1 locs1 → W p l e R s m args below meth c H1 locs1 cells slots Q (F0 m (pc + 1) ls rest)) : W p l e R s m args below meth c H locs cells slots Q (F0 m pc ls (.int z :: .int x :: .ref (ad k i) :: rest)) := by
  obtain ⟨hx, hb, hml, hown, hts⟩ := S
  have h1 := hX.1 k i hi
  rw [hF] at h1
  refine W.iast hx hb h1 ((hK.2 t0 _ ht).1 N (fun j => .int (d.1 k i j))) (fun q => by cases q) (by show ¬ (x < 0 ∨ (arrV _ _ _).slots.size ≤ _); rw [arrV_size]; exact hin) rfl rfl hdg fun H1 e1 e2 e3 => ?_
  refine kk H1 _ (hX.put hi (fun k' i' hq => ⟨uv_off d k i _ z k' i' hq, rfl⟩) ?_ e3) (hS.put e2 e3 hA)
  rw [uv_row]
  show va_at D vwCl (ad k i, F k i (upd (d.1 k i) x.toNatClampNeg z) (d.2 k i)) H1
  rw [hF]
  show H1[ad k i]? = some (vp_cell _ _)
  rw [e1, vp_cell_i, vp_cell_i, arrV_store]
  congr 2
  funext q
  by_cases hq : q = x.toNatClampNeg
  · subst hq
    simp [updV, upd]
  · simp [updV, upd, hq]
theorem xlast (S : CallFix p m c cc nL s args Ts own) (hK : va_K D vwCl tys s) (hX : PIC D F n ad d H) (hS : va_S A H0 H locs) {k i : Nat} (hi : i < n k) (hA : A (ad k i)) (t0 : Nat) {cA : ClassId} {N : Nat} (hF : ∀ f, F k i (d.1 k i) f = .inl (cA, N, .inr (.inl f))) (ht : tys[t0]? = some (cA, .long)) {x : Int32} {z : Int64} (hin : vp_in x N) (hdg : decode cc pc = .ok (.lastore, 1))
    (kk : ∀ (H1 : Heap) (locs1 : List Loc), PIC D F n ad (uw d k i (ix x) z) H1 → va_S A H0 H1 locs1 → W p l e R s m args below meth c H1 locs1 cells slots Q (F0 m (pc + 1) ls rest)) : W p l e R s m args below meth c H locs cells slots Q (F0 m pc ls (.long z :: .int x :: .ref (ad k i) :: rest)) := by
  obtain ⟨hx, hb, hml, hown, hts⟩ := S
  have h1 := hX.1 k i hi
  rw [hF] at h1
  refine W.last hx hb h1 ((hK.2 t0 _ ht).1 N (fun j => .long (d.2 k i j))) (fun q => by cases q) (by show ¬ (x < 0 ∨ (arrV _ _ _).slots.size ≤ _); rw [arrV_size]; exact hin) rfl rfl hdg fun H1 e1 e2 e3 => ?_
  refine kk H1 _ (hX.put hi (fun k' i' hq => ⟨rfl, uw_off d k i _ z k' i' hq⟩) ?_ e3) (hS.put e2 e3 hA)
  rw [uw_row]
  show va_at D vwCl (ad k i, F k i (d.1 k i) (vp_updL (d.2 k i) x.toNatClampNeg z)) H1
  rw [hF]
  show H1[ad k i]? = some (vp_cell _ _)
  rw [e1, vp_cell_l, vp_cell_l, arrV_store]
  congr 2
  funext q
  by_cases hq : q = x.toNatClampNeg
  · subst hq
    simp [updV, vp_updL]
  · simp [updV, vp_updL, hq]
/-- System.arraycopy between two rows of ints of the picture -/
theorem xcopy (S : CallFix p m c cc nL s args Ts own) (hsz : ls.size = nL) {index : Nat} (hlink : Cond.methodLink own index arraycopyName ∈ Ts) (hnat : Cond.native arraycopyName ∈ Ts) (hstat : Cond.static arraycopyName ∈ Ts) (hini : Cond.initialized "java/lang/System" ∈ Ts)
    (hK : va_K D vwCl tys s) (hX : PIC D F n ad d H) (hS : va_S A H0 H locs) {k i k1 i1 : Nat} (hi : i < n k) (hi1 : i1 < n k1) (hA : A (ad k1 i1)) (t0 : Nat) {cA : ClassId} {N N1 : Nat} (hF : F k i (d.1 k i) (d.2 k i) = .inl (cA, N, .inl (d.1 k i))) (hF1 : ∀ f, F k1 i1 f (d.2 k1 i1) = .inl (cA, N1, .inl f)) (ht : tys[t0]? = some (cA, .int))
    {sp dp z : Int32} (h1 : 0 ≤ sp.toInt) (h2 : 0 ≤ dp.toInt) (h3 : 0 ≤ z.toInt) (h4 : sp.toInt + z.toInt ≤ (N : Int)) (h5 : dp.toInt + z.toInt ≤ (N1 : Int)) (hframes : 1 ≤ R.frames) (hlocals : (rest.map fun v => v.category).sum + (nativeFrameWords "java/lang/System" "arraycopy" 5 + 11) ≤ R.locals) (hdg : decode cc pc = .ok (.invokestatic index, 3))
    (kk : ∀ (H1 : Heap) (locs1 : List Loc), PIC D F n ad (uf d k1 i1 (va_cpy (d.1 k i) (d.1 k1 i1) (ix sp) (ix dp) (ix z))) H1 → va_S A H0 H1 locs1 → W p l e R s m args below meth c H1 locs1 cells slots Q (F0 m (pc + 3) ls rest)) :
    W p l e R s m args below meth c H locs cells slots Q (F0 m pc ls (.int z :: .int dp :: .ref (ad k1 i1) :: .int sp :: .ref (ad k i) :: rest)) := by
  obtain ⟨hx, hb, hml, hown, hts⟩ := S
  have nn : ∀ y : Int32, 0 ≤ y.toInt → y.toInt = ((y.toNatClampNeg : Nat) : Int) := fun y hy => (ix_int hy).symm
  have np : ∀ y : Int32, 0 ≤ y.toInt → ¬ y < 0 := fun y hy q => by
    rw [Int32.lt_iff_toInt_lt, Int32.toInt_zero] at q
    omega
  have g0 := hX.1 k i hi
  rw [hF] at g0
  have g1 := hX.1 k1 i1 hi1
  rw [hF1] at g1
  intro T hT X
  obtain ⟨-, k0, hk0, cm0, hkk0⟩ := (hK.2 t0 _ ht).1 N (fun j => .int (d.1 k i j))
  obtain ⟨-, k2, hk2, cm2, hkk2⟩ := (hK.2 t0 _ ht).1 N1 (fun j => .int (d.1 k1 i1 j))
  have e4 := nn sp h1
  have e5 := nn dp h2
  have e6 := nn z h3
  obtain ⟨vm', X', step⟩ := X.arraycopy hx hown (hts _ hlink) (hts _ hnat) (hts _ hstat) (hts _ hini) (src := ad k i) (dst := ad k1 i1) (cs := vp_cell cA (N, .inl (d.1 k i))) (cd := vp_cell cA (N1, .inl (d.1 k1 i1))) (srcPos := sp) (destPos := dp) (n := z) (by rw [hT]; exact g0) (by rw [hT]; exact g1)
    (fun _ h => by cases h) (fun _ h => by cases h) (fun h => by cases h) (fun h => by cases h) hk0 hk2 hkk0 hkk2 (by simp [refKind]) (np _ h1) (np _ h2) (np _ h3)
    (by show ¬ _ > ((arrV cA N (fun j => .int (d.1 k i j))).slots.size : Int); rw [arrV_size]; omega)
    (by show ¬ _ > ((arrV cA N1 (fun j => .int (d.1 k1 i1 j))).slots.size : Int); rw [arrV_size]; omega)
    (fun vm₁ _ j hj => by
      have e : (vp_cell cA (N, .inl (d.1 k i))).slots.getD (sp.toNatClampNeg + j) .null = .int (d.1 k i (sp.toNatClampNeg + j)) := by
        show (arrV cA N (fun j => .int (d.1 k i j))).slots.getD _ _ = _
        rw [Array.getD_eq_getD_getElem?, arrV_read _ _ (by omega)]
        rfl
      rw [e]
      exact ⟨rfl, trivial⟩)
    (g := F0 m pc ls (.int z :: .int dp :: .ref (ad k1 i1) :: .int sp :: .ref (ad k i) :: rest)) rfl (by rw [hml]; exact hsz) (rest := rest) rfl (by rw [hb]; exact hdg) hframes (by show 2 * 0 + _ + _ ≤ _; omega)
  have e1 : copied (vp_cell cA (N, .inl (d.1 k i))) (vp_cell cA (N1, .inl (d.1 k1 i1))) sp dp z = vp_cell cA (N1, .inl (va_cpy (d.1 k i) (d.1 k1 i1) (ix sp) (ix dp) (ix z))) := va_copied (fun y => .int y) cA cA (d.1 k i) (d.1 k1 i1) (by omega)
  rw [e1] at X' step
  have hl : ad k1 i1 < H.size := (Array.getElem?_eq_some_iff.mp g1).1
  generalize hZ : vp_cell cA (N1, .inl (va_cpy (d.1 k i) (d.1 k1 i1) (ix sp) (ix dp) (ix z))) = Z at X' step
  have hheap : ((T.setVm vm').setCell (ad k1 i1) Z).heap = H.setIfInBounds (ad k1 i1) Z := by rw [← hT]; rfl
  have oq : ∀ q : Nat, q ≠ ad k1 i1 → (H.setIfInBounds (ad k1 i1) Z)[q]? = H[q]? := fun q hq => by simp [Array.getElem?_setIfInBounds, Ne.symm hq]
  obtain ⟨t, a1, b1⟩ := kk (H.setIfInBounds (ad k1 i1) Z) _ (hX.put hi1 (fun k' i' hq => ⟨uf_off d k1 i1 _ k' i' hq, rfl⟩) (by
      rw [uf_row]
      show va_at D vwCl (ad k1 i1, F k1 i1 _ (d.2 k1 i1)) _
      rw [hF1]
      show (H.setIfInBounds (ad k1 i1) Z)[ad k1 i1]? = some (vp_cell _ _)
      rw [hZ]
      simp [Array.getElem?_setIfInBounds, hl]) oq) ⟨by simp; exact hS.1, fun q g1 g2 => by
      rw [oq q (fun e => g2 (by rw [e]; exact hA))]
      exact hS.2.1 q g1 g2, fun q hq => by
      rcases List.mem_append.mp hq with h | h
      · exact hS.2.2 q h
      · obtain ⟨y, -, hy⟩ := List.mem_map.mp h
        rw [← hy]
        exact hA⟩ _ hheap X'
  exact ⟨t, step t a1, b1⟩
end BASE
end
section
section BASE2
variable {p : Program} {l : Launch} {e : Env} {R : Room} {s : State} {m : MethodId} {args : Array Value} {below : List Frame} {meth : Method} {c : Code} {H : Heap} {locs : List Loc} {cells slots : Nat} {Q : State → Prop}
variable {cc : ByteArray} {nL pc : Nat} {ls : Array Slot} {rest : List Value} {D : va_G} {A : Nat → Prop} {tys : List (ClassId × FieldType)} {H0 : Heap} {Ts : List Cond} {own : String}
variable {F : Nat → Nat → (Nat → Int32) → (Nat → Int64) → va_E} {n : Nat → Nat} {ad : Nat → Nat → Nat} {d : Dt}
theorem q_icmp_eq (S : CallFix p m c cc nL s args Ts own) {x y : Int32} {xi yi : Int} (hx : x.toInt = xi) (hy : y.toInt = yi) {off : Int} {tgt : Nat} (hdg : decode cc pc = .ok (.if_icmp .eq off, 3)) (ht : (pc : Int) + off = (tgt : Int)) (kt : xi = yi → W p l e R s m args below meth c H locs cells slots Q (F0 m tgt ls rest)) (kf : ¬ xi = yi → W p l e R s m args below meth c H locs cells slots Q (F0 m (pc + 3) ls rest)) : W p l e R s m args below meth c H locs cells slots Q (F0 m pc ls (.int y :: .int x :: rest)) := by
  subst hx; subst hy
  exact lv_icmp_eq S.1 S.2.1 hdg ht (fun h => kt ((Int32.toInt_inj.symm).mp h)) (fun h => kf (fun q => h ((Int32.toInt_inj.symm).mpr q)))
theorem q_if_eq (S : CallFix p m c cc nL s args Ts own) {x : Int32} {xi : Int} (hx : x.toInt = xi) {off : Int} {tgt : Nat} (hdg : decode cc pc = .ok (.ifCond .eq off, 3)) (ht : (pc : Int) + off = (tgt : Int)) (kt : xi = 0 → W p l e R s m args below meth c H locs cells slots Q (F0 m tgt ls rest)) (kf : ¬ xi = 0 → W p l e R s m args below meth c H locs cells slots Q (F0 m (pc + 3) ls rest)) : W p l e R s m args below meth c H locs cells slots Q (F0 m pc ls (.int x :: rest)) := by
  subst hx
  have hz := (by rw [← Int32.toInt_inj, Int32.toInt_zero] : x = 0 ↔ x.toInt = 0)
  exact lv_if_eq S.1 S.2.1 hdg ht (fun h => kt (hz.mp h)) (fun h => kf (fun q => h (hz.mpr q)))
theorem q_lcmp_eq (S : CallFix p m c cc nL s args Ts own) {x y : Int64} {xi yi : Int} (hx : x.toInt = xi) (hy : y.toInt = yi) {off : Int} {tgt : Nat} (hdg0 : decode cc pc = .ok (.lcmp, 1)) (hdg : decode cc (pc + 1) = .ok (.ifCond .eq off, 3)) (ht : ((pc + 1 : Nat) : Int) + off = (tgt : Int)) (kt : xi = yi → W p l e R s m args below meth c H locs cells slots Q (F0 m tgt ls rest)) (kf : ¬ xi = yi → W p l e R s m args below meth c H locs cells slots Q (F0 m (pc + 4) ls rest)) : W p l e R s m args below meth c H locs cells slots Q (F0 m pc ls (.long y :: .long x :: rest)) := by
  subst hx; subst hy
  have hz := (lg_cmp_eq x y).trans Int64.toInt_inj.symm
  exact W.lcmp S.1 S.2.1 hdg0 (lv_if_eq S.1 S.2.1 hdg ht (fun h => kt (hz.mp h)) (fun h => kf (fun q => h (hz.mpr q))))
theorem q_icmp_ne (S : CallFix p m c cc nL s args Ts own) {x y : Int32} {xi yi : Int} (hx : x.toInt = xi) (hy : y.toInt = yi) {off : Int} {tgt : Nat} (hdg : decode cc pc = .ok (.if_icmp .ne off, 3)) (ht : (pc : Int) + off = (tgt : Int)) (kt : ¬ xi = yi → W p l e R s m args below meth c H locs cells slots Q (F0 m tgt ls rest)) (kf : xi = yi → W p l e R s m args below meth c H locs cells slots Q (F0 m (pc + 3) ls rest)) : W p l e R s m args below meth c H locs cells slots Q (F0 m pc ls (.int y :: .int x :: rest)) := by
  subst hx; subst hy
  exact lv_icmp_ne S.1 S.2.1 hdg ht (fun h => kt (fun q => h ((Int32.toInt_inj.symm).mpr q))) (fun h => kf ((Int32.toInt_inj.symm).mp h))
theorem q_if_ne (S : CallFix p m c cc nL s args Ts own) {x : Int32} {xi : Int} (hx : x.toInt = xi) {off : Int} {tgt : Nat} (hdg : decode cc pc = .ok (.ifCond .ne off, 3)) (ht : (pc : Int) + off = (tgt : Int)) (kt : ¬ xi = 0 → W p l e R s m args below meth c H locs cells slots Q (F0 m tgt ls rest)) (kf : xi = 0 → W p l e R s m args below meth c H locs cells slots Q (F0 m (pc + 3) ls rest)) : W p l e R s m args below meth c H locs cells slots Q (F0 m pc ls (.int x :: rest)) := by
  subst hx
  have hz := (by rw [← Int32.toInt_inj, Int32.toInt_zero] : x = 0 ↔ x.toInt = 0)
  exact lv_if_ne S.1 S.2.1 hdg ht (fun h => kt (fun q => h (hz.mpr q))) (fun h => kf (hz.mp h))
theorem q_lcmp_ne (S : CallFix p m c cc nL s args Ts own) {x y : Int64} {xi yi : Int} (hx : x.toInt = xi) (hy : y.toInt = yi) {off : Int} {tgt : Nat} (hdg0 : decode cc pc = .ok (.lcmp, 1)) (hdg : decode cc (pc + 1) = .ok (.ifCond .ne off, 3)) (ht : ((pc + 1 : Nat) : Int) + off = (tgt : Int)) (kt : ¬ xi = yi → W p l e R s m args below meth c H locs cells slots Q (F0 m tgt ls rest)) (kf : xi = yi → W p l e R s m args below meth c H locs cells slots Q (F0 m (pc + 4) ls rest)) : W p l e R s m args below meth c H locs cells slots Q (F0 m pc ls (.long y :: .long x :: rest)) := by
  subst hx; subst hy
  have hz := (lg_cmp_eq x y).trans Int64.toInt_inj.symm
  exact W.lcmp S.1 S.2.1 hdg0 (lv_if_ne S.1 S.2.1 hdg ht (fun h => kt (fun q => h (hz.mpr q))) (fun h => kf (hz.mp h)))
theorem q_icmp_lt (S : CallFix p m c cc nL s args Ts own) {x y : Int32} {xi yi : Int} (hx : x.toInt = xi) (hy : y.toInt = yi) {off : Int} {tgt : Nat} (hdg : decode cc pc = .ok (.if_icmp .lt off, 3)) (ht : (pc : Int) + off = (tgt : Int)) (kt : xi < yi → W p l e R s m args below meth c H locs cells slots Q (F0 m tgt ls rest)) (kf : ¬ xi < yi → W p l e R s m args below meth c H locs cells slots Q (F0 m (pc + 3) ls rest)) : W p l e R s m args below meth c H locs cells slots Q (F0 m pc ls (.int y :: .int x :: rest)) := by
  subst hx; subst hy
  exact lv_icmp_lt S.1 S.2.1 hdg ht (fun h => kt ((Int32.lt_iff_toInt_lt).mp h)) (fun h => kf (fun q => h ((Int32.lt_iff_toInt_lt).mpr q)))
theorem q_if_lt (S : CallFix p m c cc nL s args Ts own) {x : Int32} {xi : Int} (hx : x.toInt = xi) {off : Int} {tgt : Nat} (hdg : decode cc pc = .ok (.ifCond .lt off, 3)) (ht : (pc : Int) + off = (tgt : Int)) (kt : xi < 0 → W p l e R s m args below meth c H locs cells slots Q (F0 m tgt ls rest)) (kf : ¬ xi < 0 → W p l e R s m args below meth c H locs cells slots Q (F0 m (pc + 3) ls rest)) : W p l e R s m args below meth c H locs cells slots Q (F0 m pc ls (.int x :: rest)) := by
  subst hx
  have hz := (by rw [Int32.lt_iff_toInt_lt, Int32.toInt_zero] : x < 0 ↔ x.toInt < 0)
  exact lv_if_lt S.1 S.2.1 hdg ht (fun h => kt (hz.mp h)) (fun h => kf (fun q => h (hz.mpr q)))
theorem q_lcmp_lt (S : CallFix p m c cc nL s args Ts own) {x y : Int64} {xi yi : Int} (hx : x.toInt = xi) (hy : y.toInt = yi) {off : Int} {tgt : Nat} (hdg0 : decode cc pc = .ok (.lcmp, 1)) (hdg : decode cc (pc + 1) = .ok (.ifCond .lt off, 3)) (ht : ((pc + 1 : Nat) : Int) + off = (tgt : Int)) (kt : xi < yi → W p l e R s m args below meth c H locs cells slots Q (F0 m tgt ls rest)) (kf : ¬ xi < yi → W p l e R s m args below meth c H locs cells slots Q (F0 m (pc + 4) ls rest)) : W p l e R s m args below meth c H locs cells slots Q (F0 m pc ls (.long y :: .long x :: rest)) := by
  subst hx; subst hy
  have hz := (lg_cmp_lt x y).trans Int64.lt_iff_toInt_lt
  exact W.lcmp S.1 S.2.1 hdg0 (lv_if_lt S.1 S.2.1 hdg ht (fun h => kt (hz.mp h)) (fun h => kf (fun q => h (hz.mpr q))))
theorem q_icmp_ge (S : CallFix p m c cc nL s args Ts own) {x y : Int32} {xi yi : Int} (hx : x.toInt = xi) (hy : y.toInt = yi) {off : Int} {tgt : Nat} (hdg : decode cc pc = .ok (.if_icmp .ge off, 3)) (ht : (pc : Int) + off = (tgt : Int)) (kt : yi ≤ xi → W p l e R s m args below meth c H locs cells slots Q (F0 m tgt ls rest)) (kf : ¬ yi ≤ xi → W p l e R s m args below meth c H locs cells slots Q (F0 m (pc + 3) ls rest)) : W p l e R s m args below meth c H locs cells slots Q (F0 m pc ls (.int y :: .int x :: rest)) := by
  subst hx; subst hy
  exact lv_icmp_ge S.1 S.2.1 hdg ht (fun h => kt ((Int32.le_iff_toInt_le).mp h)) (fun h => kf (fun q => h ((Int32.le_iff_toInt_le).mpr q)))
theorem q_if_ge (S : CallFix p m c cc nL s args Ts own) {x : Int32} {xi : Int} (hx : x.toInt = xi) {off : Int} {tgt : Nat} (hdg : decode cc pc = .ok (.ifCond .ge off, 3)) (ht : (pc : Int) + off = (tgt : Int)) (kt : 0 ≤ xi → W p l e R s m args below meth c H locs cells slots Q (F0 m tgt ls rest)) (kf : ¬ 0 ≤ xi → W p l e R s m args below meth c H locs cells slots Q (F0 m (pc + 3) ls rest)) : W p l e R s m args below meth c H locs cells slots Q (F0 m pc ls (.int x :: rest)) := by
  subst hx
  have hz := (by rw [Int32.le_iff_toInt_le, Int32.toInt_zero] : 0 ≤ x ↔ 0 ≤ x.toInt)
  exact lv_if_ge S.1 S.2.1 hdg ht (fun h => kt (hz.mp h)) (fun h => kf (fun q => h (hz.mpr q)))
theorem q_lcmp_ge (S : CallFix p m c cc nL s args Ts own) {x y : Int64} {xi yi : Int} (hx : x.toInt = xi) (hy : y.toInt = yi) {off : Int} {tgt : Nat} (hdg0 : decode cc pc = .ok (.lcmp, 1)) (hdg : decode cc (pc + 1) = .ok (.ifCond .ge off, 3)) (ht : ((pc + 1 : Nat) : Int) + off = (tgt : Int)) (kt : yi ≤ xi → W p l e R s m args below meth c H locs cells slots Q (F0 m tgt ls rest)) (kf : ¬ yi ≤ xi → W p l e R s m args below meth c H locs cells slots Q (F0 m (pc + 4) ls rest)) : W p l e R s m args below meth c H locs cells slots Q (F0 m pc ls (.long y :: .long x :: rest)) := by
  subst hx; subst hy
  have hz := (lg_cmp_ge x y).trans Int64.le_iff_toInt_le
  exact W.lcmp S.1 S.2.1 hdg0 (lv_if_ge S.1 S.2.1 hdg ht (fun h => kt (hz.mp h)) (fun h => kf (fun q => h (hz.mpr q))))
theorem q_icmp_gt (S : CallFix p m c cc nL s args Ts own) {x y : Int32} {xi yi : Int} (hx : x.toInt = xi) (hy : y.toInt = yi) {off : Int} {tgt : Nat} (hdg : decode cc pc = .ok (.if_icmp .gt off, 3)) (ht : (pc : Int) + off = (tgt : Int)) (kt : yi < xi → W p l e R s m args below meth c H locs cells slots Q (F0 m tgt ls rest)) (kf : ¬ yi < xi → W p l e R s m args below meth c H locs cells slots Q (F0 m (pc + 3) ls rest)) : W p l e R s m args below meth c H locs cells slots Q (F0 m pc ls (.int y :: .int x :: rest)) := by
  subst hx; subst hy
  exact lv_icmp_gt S.1 S.2.1 hdg ht (fun h => kt ((Int32.lt_iff_toInt_lt).mp h)) (fun h => kf (fun q => h ((Int32.lt_iff_toInt_lt).mpr q)))
theorem q_if_gt (S : CallFix p m c cc nL s args Ts own) {x : Int32} {xi : Int} (hx : x.toInt = xi) {off : Int} {tgt : Nat} (hdg : decode cc pc = .ok (.ifCond .gt off, 3)) (ht : (pc : Int) + off = (tgt : Int)) (kt : 0 < xi → W p l e R s m args below meth c H locs cells slots Q (F0 m tgt ls rest)) (kf : ¬ 0 < xi → W p l e R s m args below meth c H locs cells slots Q (F0 m (pc + 3) ls rest)) : W p l e R s m args below meth c H locs cells slots Q (F0 m pc ls (.int x :: rest)) := by
  subst hx
  have hz := (by rw [Int32.lt_iff_toInt_lt, Int32.toInt_zero] : 0 < x ↔ 0 < x.toInt)
  exact lv_if_gt S.1 S.2.1 hdg ht (fun h => kt (hz.mp h)) (fun h => kf (fun q => h (hz.mpr q)))
theorem q_lcmp_gt (S : CallFix p m c cc nL s args Ts own) {x y : Int64} {xi yi : Int} (hx : x.toInt = xi) (hy : y.toInt = yi) {off : Int} {tgt : Nat} (hdg0 : decode cc pc = .ok (.lcmp, 1)) (hdg : decode cc (pc + 1) = .ok (.ifCond .gt off, 3)) (ht : ((pc + 1 : Nat) : Int) + off = (tgt : Int)) (kt : yi < xi → W p l e R s m args below meth c H locs cells slots Q (F0 m tgt ls rest)) (kf : ¬ yi < xi → W p l e R s m args below meth c H locs cells slots Q (F0 m (pc + 4) ls rest)) : W p l e R s m args below meth c H locs cells slots Q (F0 m pc ls (.long y :: .long x :: rest)) := by
  subst hx; subst hy
  have hz := (lg_cmp_gt x y).trans Int64.lt_iff_toInt_lt
  exact W.lcmp S.1 S.2.1 hdg0 (lv_if_gt S.1 S.2.1 hdg ht (fun h => kt (hz.mp h)) (fun h => kf (fun q => h (hz.mpr q))))
theorem q_icmp_le (S : CallFix p m c cc nL s args Ts own) {x y : Int32} {xi yi : Int} (hx : x.toInt = xi) (hy : y.toInt = yi) {off : Int} {tgt : Nat} (hdg : decode cc pc = .ok (.if_icmp .le off, 3)) (ht : (pc : Int) + off = (tgt : Int)) (kt : xi ≤ yi → W p l e R s m args below meth c H locs cells slots Q (F0 m tgt ls rest)) (kf : ¬ xi ≤ yi → W p l e R s m args below meth c H locs cells slots Q (F0 m (pc + 3) ls rest)) : W p l e R s m args below meth c H locs cells slots Q (F0 m pc ls (.int y :: .int x :: rest)) := by
  subst hx; subst hy
  exact lv_icmp_le S.1 S.2.1 hdg ht (fun h => kt ((Int32.le_iff_toInt_le).mp h)) (fun h => kf (fun q => h ((Int32.le_iff_toInt_le).mpr q)))
theorem q_if_le (S : CallFix p m c cc nL s args Ts own) {x : Int32} {xi : Int} (hx : x.toInt = xi) {off : Int} {tgt : Nat} (hdg : decode cc pc = .ok (.ifCond .le off, 3)) (ht : (pc : Int) + off = (tgt : Int)) (kt : xi ≤ 0 → W p l e R s m args below meth c H locs cells slots Q (F0 m tgt ls rest)) (kf : ¬ xi ≤ 0 → W p l e R s m args below meth c H locs cells slots Q (F0 m (pc + 3) ls rest)) : W p l e R s m args below meth c H locs cells slots Q (F0 m pc ls (.int x :: rest)) := by
  subst hx
  have hz := (by rw [Int32.le_iff_toInt_le, Int32.toInt_zero] : x ≤ 0 ↔ x.toInt ≤ 0)
  exact lv_if_le S.1 S.2.1 hdg ht (fun h => kt (hz.mp h)) (fun h => kf (fun q => h (hz.mpr q)))
theorem q_lcmp_le (S : CallFix p m c cc nL s args Ts own) {x y : Int64} {xi yi : Int} (hx : x.toInt = xi) (hy : y.toInt = yi) {off : Int} {tgt : Nat} (hdg0 : decode cc pc = .ok (.lcmp, 1)) (hdg : decode cc (pc + 1) = .ok (.ifCond .le off, 3)) (ht : ((pc + 1 : Nat) : Int) + off = (tgt : Int)) (kt : xi ≤ yi → W p l e R s m args below meth c H locs cells slots Q (F0 m tgt ls rest)) (kf : ¬ xi ≤ yi → W p l e R s m args below meth c H locs cells slots Q (F0 m (pc + 4) ls rest)) : W p l e R s m args below meth c H locs cells slots Q (F0 m pc ls (.long y :: .long x :: rest)) := by
  subst hx; subst hy
  have hz := (lg_cmp_le x y).trans Int64.le_iff_toInt_le
  exact W.lcmp S.1 S.2.1 hdg0 (lv_if_le S.1 S.2.1 hdg ht (fun h => kt (hz.mp h)) (fun h => kf (fun q => h (hz.mpr q))))
theorem q_if_eq_b (S : CallFix p m c cc nL s args Ts own) {P : Prop} {off : Int} {tgt : Nat} (hdg : decode cc pc = .ok (.ifCond .eq off, 3)) (ht : (pc : Int) + off = (tgt : Int)) (kt : ¬ P → W p l e R s m args below meth c H locs cells slots Q (F0 m tgt ls rest)) (kf : P → W p l e R s m args below meth c H locs cells slots Q (F0 m (pc + 3) ls rest)) : W p l e R s m args below meth c H locs cells slots Q (F0 m pc ls (.int (b2i P) :: rest)) := by
  by_cases h : P
  · exact lv_if_eq S.1 S.2.1 hdg ht (fun q => absurd q (by rw [b2i_t h]; decide)) (fun _ => kf h)
  · exact lv_if_eq S.1 S.2.1 hdg ht (fun _ => kt h) (fun q => absurd (b2i_f h) q)
theorem q_if_ne_b (S : CallFix p m c cc nL s args Ts own) {P : Prop} {off : Int} {tgt : Nat} (hdg : decode cc pc = .ok (.ifCond .ne off, 3)) (ht : (pc : Int) + off = (tgt : Int)) (kt : P → W p l e R s m args below meth c H locs cells slots Q (F0 m tgt ls rest)) (kf : ¬ P → W p l e R s m args below meth c H locs cells slots Q (F0 m (pc + 3) ls rest)) : W p l e R s m args below meth c H locs cells slots Q (F0 m pc ls (.int (b2i P) :: rest)) := by
  by_cases h : P
  · exact lv_if_ne S.1 S.2.1 hdg ht (fun _ => kt h) (fun q => absurd q (by rw [b2i_t h]; decide))
  · exact lv_if_ne S.1 S.2.1 hdg ht (fun q => absurd (b2i_f h) q) (fun _ => kf h)
theorem q_to {x y : Int32} (h : x = y) (k : W p l e R s m args below meth c H locs cells slots Q (F0 m pc ls (.int y :: rest))) : W p l e R s m args below meth c H locs cells slots Q (F0 m pc ls (.int x :: rest)) := h ▸ k
theorem q_toL {x y : Int64} (h : x = y) (k : W p l e R s m args below meth c H locs cells slots Q (F0 m pc ls (.long y :: rest))) : W p l e R s m args below meth c H locs cells slots Q (F0 m pc ls (.long x :: rest)) := h ▸ k
/-! ends -/
theorem rI (S : CallFix p m c cc nL s args Ts own) (hr : meth.sig.returnType = some .int) (hlk : meth.locks = false) {sp v : Int32} (hs : sp = v) {free : Addr → Prop} (hdg : decode cc pc = .ok (.ireturn, 1)) : W p l e R s m args below meth c s.heap [] 0 0 (MQ below (qV (some (.int sp))) args s 0 0 free) (F0 m pc ls [.int v]) :=
  W.iret S.1 S.2.1 hr (fun t ht _ => ⟨by rw [hs], ht⟩) (fun _ h => by cases h) hdg hlk
theorem rZ (S : CallFix p m c cc nL s args Ts own) (hr : meth.sig.returnType = some .boolean) (hlk : meth.locks = false) {SP P : Prop} {v : Int32} (hs : SP = P) (hv : v = b2i P) {free : Addr → Prop} (hdg : decode cc pc = .ok (.ireturn, 1)) : W p l e R s m args below meth c s.heap [] 0 0 (MQ below (qV (some (.int (b2i SP)))) args s 0 0 free) (F0 m pc ls [.int v]) :=
  W.zret S.1 S.2.1 hr (by rw [hv]; exact b2i_nar P) (fun t ht _ => ⟨by rw [hs, hv], ht⟩) (fun _ h => by cases h) hdg hlk
theorem rL (S : CallFix p m c cc nL s args Ts own) (hr : meth.sig.returnType = some .long) (hlk : meth.locks = false) {sp v : Int64} (hs : sp = v) {free : Addr → Prop} (hdg : decode cc pc = .ok (.lreturn, 1)) : W p l e R s m args below meth c s.heap [] 0 0 (MQ below (qV (some (.long sp))) args s 0 0 free) (F0 m pc ls [.long v]) :=
  W.lret S.1 S.2.1 hr (fun t ht _ => ⟨by rw [hs], ht⟩) (fun _ h => by cases h) hdg hlk
theorem wI (S : CallFix p m c cc nL s args Ts own) (hr : meth.sig.returnType = some .int) (hlk : meth.locks = false) {sp : Int32 × Dt} {v : Int32} {d1 : Dt} (hs : sp = (v, d1)) (hX : PIC D F n ad d1 H) (hS : va_S (adS n ad) s.heap H locs) (hdg : decode cc pc = .ok (.ireturn, 1)) : W p l e R s m args below meth c H locs 0 0 (MQ below (qW (some (.int sp.1)) D F n ad sp.2) args s 0 0 (adS n ad)) (F0 m pc ls [.int v]) :=
  W.iret S.1 S.2.1 hr (fun t ht _ => ⟨by rw [hs], by rw [hs, ht]; exact hX, hS.F ht⟩) hS.2.2 hdg hlk
theorem wZ (S : CallFix p m c cc nL s args Ts own) (hr : meth.sig.returnType = some .boolean) (hlk : meth.locks = false) {sp : Prop × Dt} {P : Prop} {v : Int32} {d1 : Dt} (hs : sp = (P, d1)) (hv : v = b2i P) (hX : PIC D F n ad d1 H) (hS : va_S (adS n ad) s.heap H locs) (hdg : decode cc pc = .ok (.ireturn, 1)) : W p l e R s m args below meth c H locs 0 0 (MQ below (qW (some (.int (b2i sp.1))) D F n ad sp.2) args s 0 0 (adS n ad)) (F0 m pc ls [.int v]) :=
  W.zret S.1 S.2.1 hr (by rw [hv]; exact b2i_nar P) (fun t ht _ => ⟨by rw [hs, hv], by rw [hs, ht]; exact hX, hS.F ht⟩) hS.2.2 hdg hlk
theorem wL (S : CallFix p m c cc nL s args Ts own) (hr : meth.sig.returnType = some .long) (hlk : meth.locks = false) {sp : Int64 × Dt} {v : Int64} {d1 : Dt} (hs : sp = (v, d1)) (hX : PIC D F n ad d1 H) (hS : va_S (adS n ad) s.heap H locs) (hdg : decode cc pc = .ok (.lreturn, 1)) : W p l e R s m args below meth c H locs 0 0 (MQ below (qW (some (.long sp.1)) D F n ad sp.2) args s 0 0 (adS n ad)) (F0 m pc ls [.long v]) :=
  W.lret S.1 S.2.1 hr (fun t ht _ => ⟨by rw [hs], by rw [hs, ht]; exact hX, hS.F ht⟩) hS.2.2 hdg hlk
theorem wV (S : CallFix p m c cc nL s args Ts own) (hr : meth.sig.returnType = none) (hlk : meth.locks = false) {sp d1 : Dt} (hs : sp = d1) (hX : PIC D F n ad d1 H) (hS : va_S (adS n ad) s.heap H locs) (hdg : decode cc pc = .ok (.return_, 1)) : W p l e R s m args below meth c H locs 0 0 (MQ below (qW none D F n ad sp) args s 0 0 (adS n ad)) (F0 m pc ls []) :=
  W.vret S.1 S.2.1 hr (fun t ht _ => ⟨rfl, by rw [hs, ht]; exact hX, hS.F ht⟩) hS.2.2 hdg hlk
/-! calls -/
theorem goodV {idx : Nat} {C : String} {y : MethodName} {b : ByteArray} {k : Nat} {r : Option FieldType} (m1 : Cond.methodLink own idx y ∈ wsL_law) (m2 : Cond.instanceMethod y ∈ wsL_law) (m3 : Cond.selects C y y ∈ wsL_law) (m4 : Cond.initialized C ∈ wsL_law) (m5 : Cond.code y b k r ∈ wsL_law) : GoodIn wsL_law (wsV own idx C y (wsU y b k r)) := by
  intro w hw
  have hm : w ∈ wsL_law := by
    rcases List.mem_append.mp hw with h | h
    · simp only [List.mem_cons, List.not_mem_nil, or_false] at h
      rcases h with rfl | rfl | rfl | rfl
      · exact m1
      · exact m2
      · exact m3
      · exact m4
    · exact (goodUL m5 w h).1
  exact ⟨hm, (wsL_good _ hm).2⟩
theorem goodS {idx : Nat} {y : MethodName} {b : ByteArray} {k : Nat} {r : Option FieldType} (m1 : Cond.methodLink own idx y ∈ wsL_law) (m2 : Cond.static y ∈ wsL_law) (m4 : Cond.initialized y.cls ∈ wsL_law) (m5 : Cond.code y b k r ∈ wsL_law) : GoodIn wsL_law (va_wsS own idx y (wsU y b k r)) := by
  intro w hw
  have hm : w ∈ wsL_law := by
    rcases List.mem_append.mp hw with h | h
    · simp only [List.mem_cons, List.not_mem_nil, or_false] at h
      rcases h with rfl | rfl | rfl
      · exact m1
      · exact m2
      · exact m4
    · exact (goodUL m5 w h).1
  exact ⟨hm, (wsL_good _ hm).2⟩
abbrev XPre (D : va_G) (tys : List (ClassId × FieldType)) (F : Nat → Nat → (Nat → Int32) → (Nat → Int64) → va_E) (n : Nat → Nat) (ad : Nat → Nat → Nat) (d : Dt) : State → Prop := fun U => va_K D vwCl tys U ∧ NW U ∧ PIC D F n ad d U.heap
theorem blindX {As : List Value} : FrameBlind (va_Pc As (XPre D tys F n ad d)) := fun a U g mk q => ⟨q.1, va_K.moved (u := U) (U := U.calling g mk a) (Vm.Alike.refl U.vm) q.2.1, NW.same (u := U) (U := U.calling g mk a) rfl q.2.2.1, q.2.2.2⟩
theorem blindT {As : List Value} : FrameBlind (va_Pc As (fun _ => True)) := fun _ _ _ _ q => q
theorem preX (hK : va_K D vwCl tys s) (hN : NW s) (hX : PIC D F n ad d H) (As : List Value) : ∀ U : State, U.heap = H → s.WarmedH U.vm → va_Pc As (XPre D tys F n ad d) As.toArray U := fun U hU hW => ⟨rfl, va_K.moved hW.alike hK, NW.warm hW hN, by rw [hU]; exact hX⟩
theorem recvX (hK : va_K D vwCl tys s) (hX : PIC D F n ad d H) {k i : Nat} (hi : i < n k) {ci : Nat} {fs : List Value} (hF : F k i (d.1 k i) (d.2 k i) = .inr (ci, fs)) {C : String} {T : u_T} {N : Nat} (hc : vwCl[ci]? = some (C, T, N)) : ∃ cellB : Cell, H[ad k i]? = some cellB ∧ cellB.vm.isStatics = false ∧ s.vm.findClass C = some cellB.cls := by
  have h1 := hX.1 k i hi
  rw [hF] at h1
  have hP : va_P D vwCl [(ad k i, .inr (ci, fs))] H := fun j q hq => by
    have hz : j < 1 := (List.getElem?_eq_some_iff.mp hq).1
    rw [show j = 0 by omega] at hq
    cases hq
    exact h1
  exact va_recv hK hP hc (q0 := 0) rfl
theorem cont_pure {g : JFrame} {v : Value} {a : Array Value} (hr : CallRun p l e R s m args below meth c H locs cells slots 0 0 g rest (qV (some v) a) (fun _ => False)) (kk : W p l e R s m args below meth c H locs cells slots Q { g with pc := g.pc + 3, stack := v :: rest }) : W p l e R s m args below meth c H locs cells slots Q g := by
  intro T hT X
  obtain ⟨v', st₀, t, T', L, h0, X', hL, e1, ⟨hv, hh⟩, st⟩ := hr T hT X
  cases hv
  obtain ⟨t2, a1, b1⟩ := kk T' (by rw [e1, hh, h0]) (Stand.forget X' (fun q h => (hL q h).elim))
  exact ⟨t2, st t2 a1, b1⟩
theorem cont_wr {g : JFrame} {v : Option Value} {a : Array Value} {d' : Dt} (hr : CallRun p l e R s m args below meth c H locs cells slots 0 0 g rest (qW v D F n ad d' a) (adS n ad)) (hS : va_S A H0 H locs) (hA : ∀ q, adS n ad q → A q) (kk : ∀ (H1 : Heap) (locs1 : List Loc), PIC D F n ad d' H1 → va_S A H0 H1 locs1 → (∀ q : Nat, q < H.size → ¬ adS n ad q → H1[q]? = H[q]?) → W p l e R s m args below meth c H1 locs1 cells slots Q { g with pc := g.pc + 3, stack := v.toList ++ rest }) : W p l e R s m args below meth c H locs cells slots Q g := by
  intro T hT X
  obtain ⟨v', st₀, t, T', L, h0, X', hL, e1, ⟨hv, hp, hz, hk⟩, st⟩ := hr T hT X
  cases hv
  rw [h0] at hz hk
  obtain ⟨t2, a1, b1⟩ := kk T'.heap (locs ++ L) (by rw [e1]; exact hp) ⟨Nat.le_trans hS.1 (by rw [e1]; exact hz), fun q g1 g2 => by
      rw [e1, hk q (Nat.lt_of_lt_of_le g1 hS.1) (fun z => g2 (hA q z))]
      exact hS.2.1 q g1 g2, fun q hq => by
      rcases List.mem_append.mp hq with h | h
      · exact hS.2.2 q h
      · exact hA _ (hL q h)⟩ (fun q g1 g2 => by rw [e1]; exact hk q g1 g2) T' rfl X'
  exact ⟨t2, st t2 a1, b1⟩
theorem cPV (S : CallFix p m c cc nL s args wsL_law own) {y : MethodName} {C : String} {bz : ByteArray} {mL idx nA b : Nat} {r : Option FieldType} {rm : Room} {As st : List Value} {Pre : State → Prop} {v : Value} (hM : Met l y (wsU y bz mL r) rm (va_Pc (.ref b :: As) Pre) (qV (some v)) 0 0 (fun _ => False)) (hg : GoodIn wsL_law (wsV own idx C y (wsU y bz mL r)))
    (hd : y.cls = C ∧ y.cls ≠ "java/lang/invoke/MethodHandle" ∧ y.cls ≠ "java/lang/invoke/VarHandle" ∧ (parseMethodDescriptor y.desc).map (fun d => d.parameters.length) = some nA) (hrm : rm.cells = 0 ∧ rm.slots = 0) (hR : rm.frames + 1 ≤ R.frames ∧ 8 + (mL + 11) + rm.locals ≤ R.locals) (hp : PreV s H C b (va_Pc (.ref b :: As) Pre) As)
    (hn : As.length = nA) (hsz : ls.size = nL) (hst : st = As.reverse ++ .ref b :: rest) (hw : (rest.map fun v => v.category).sum ≤ 8) (hf : cells ≤ R.cells ∧ slots ≤ R.slots) (hdg : decode cc pc = .ok (.invokevirtual idx, 3)) (kk : W p l e R s m args below meth c H locs cells slots Q (F0 m (pc + 3) ls (v :: rest))) : W p l e R s m args below meth c H locs cells slots Q (F0 m pc ls st) :=
  cont_pure (W.runV S hM (cwV nA S.2.2.2.2 hg rfl hrm.1 hrm.2 hd hR) hp rfl hn hsz hst (lv_room hw) hdg hf) kk
theorem cPS (S : CallFix p m c cc nL s args wsL_law own) {y : MethodName} {bz : ByteArray} {mL idx nA : Nat} {r : Option FieldType} {rm : Room} {As st : List Value} {v : Value} (hM : Met l y (wsU y bz mL r) rm (va_Pc As (fun _ => True)) (qV (some v)) 0 0 (fun _ => False)) (hg : GoodIn wsL_law (va_wsS own idx y (wsU y bz mL r)))
    (hd : y.cls ≠ "java/lang/invoke/MethodHandle" ∧ y.cls ≠ "java/lang/invoke/VarHandle" ∧ (parseMethodDescriptor y.desc).map (fun d => d.parameters.length) = some nA) (hrm : rm.cells = 0 ∧ rm.slots = 0) (hR : rm.frames + 1 ≤ R.frames ∧ 8 + (mL + 11) + rm.locals ≤ R.locals)
    (hn : As.length = nA) (hsz : ls.size = nL) (hst : st = As.reverse ++ rest) (hw : (rest.map fun v => v.category).sum ≤ 8) (hf : cells ≤ R.cells ∧ slots ≤ R.slots) (hdg : decode cc pc = .ok (.invokestatic idx, 3)) (kk : W p l e R s m args below meth c H locs cells slots Q (F0 m (pc + 3) ls (v :: rest))) : W p l e R s m args below meth c H locs cells slots Q (F0 m pc ls st) :=
  cont_pure (W.runS S hM (va_cwS nA S.2.2.2.2 hg rfl hrm.1 hrm.2 hd hR) ⟨blindT, fun _ _ _ => ⟨rfl, trivial⟩⟩ rfl hn hsz hst (lv_room hw) hdg hf) kk
theorem cWV (S : CallFix p m c cc nL s args wsL_law own) {y : MethodName} {C : String} {bz : ByteArray} {mL idx nA b : Nat} {r : Option FieldType} {rm : Room} {As st : List Value} {Pre : State → Prop} {v : Option Value} {d' : Dt} (hM : Met l y (wsU y bz mL r) rm (va_Pc (.ref b :: As) Pre) (qW v D F n ad d') 0 0 (adS n ad)) (hg : GoodIn wsL_law (wsV own idx C y (wsU y bz mL r)))
    (hd : y.cls = C ∧ y.cls ≠ "java/lang/invoke/MethodHandle" ∧ y.cls ≠ "java/lang/invoke/VarHandle" ∧ (parseMethodDescriptor y.desc).map (fun d => d.parameters.length) = some nA) (hrm : rm.cells = 0 ∧ rm.slots = 0) (hR : rm.frames + 1 ≤ R.frames ∧ 8 + (mL + 11) + rm.locals ≤ R.locals) (hp : PreV s H C b (va_Pc (.ref b :: As) Pre) As)
    (hn : As.length = nA) (hsz : ls.size = nL) (hst : st = As.reverse ++ .ref b :: rest) (hw : (rest.map fun v => v.category).sum ≤ 8) (hf : cells ≤ R.cells ∧ slots ≤ R.slots) (hdg : decode cc pc = .ok (.invokevirtual idx, 3)) (hS : va_S A H0 H locs) (hA : ∀ q, adS n ad q → A q)
    (kk : ∀ (H1 : Heap) (locs1 : List Loc), PIC D F n ad d' H1 → va_S A H0 H1 locs1 → (∀ q : Nat, q < H.size → ¬ adS n ad q → H1[q]? = H[q]?) → W p l e R s m args below meth c H1 locs1 cells slots Q (F0 m (pc + 3) ls (v.toList ++ rest))) : W p l e R s m args below meth c H locs cells slots Q (F0 m pc ls st) :=
  cont_wr (W.runV S hM (cwV nA S.2.2.2.2 hg rfl hrm.1 hrm.2 hd hR) hp rfl hn hsz hst (lv_room hw) hdg hf) hS hA kk
/-- a static method of the JDK that writes one row of the picture (Arrays.fill) -/
theorem cWS (S : CallFix p m c cc nL s args wsL_law own) {y : MethodName} {bz : ByteArray} {mL idx nA : Nat} {r : Option FieldType} {rm : Room} {As st : List Value} {Pre : State → Prop} {v : Option Value} {d' : Dt} (hM : Met l y (wsU y bz mL r) rm (va_Pc As Pre) (qW v D F n ad d') 0 0 (adS n ad)) (hg : GoodIn wsL_law (va_wsS own idx y (wsU y bz mL r)))
    (hd : y.cls ≠ "java/lang/invoke/MethodHandle" ∧ y.cls ≠ "java/lang/invoke/VarHandle" ∧ (parseMethodDescriptor y.desc).map (fun d => d.parameters.length) = some nA) (hrm : rm.cells = 0 ∧ rm.slots = 0) (hR : rm.frames + 1 ≤ R.frames ∧ 8 + (mL + 11) + rm.locals ≤ R.locals) (hp : PreS s H (va_Pc As Pre) As)
    (hn : As.length = nA) (hsz : ls.size = nL) (hst : st = As.reverse ++ rest) (hw : (rest.map fun v => v.category).sum ≤ 8) (hf : cells ≤ R.cells ∧ slots ≤ R.slots) (hdg : decode cc pc = .ok (.invokestatic idx, 3)) (hS : va_S A H0 H locs) (hA : ∀ q, adS n ad q → A q)
    (kk : ∀ (H1 : Heap) (locs1 : List Loc), PIC D F n ad d' H1 → va_S A H0 H1 locs1 → (∀ q : Nat, q < H.size → ¬ adS n ad q → H1[q]? = H[q]?) → W p l e R s m args below meth c H1 locs1 cells slots Q (F0 m (pc + 3) ls (v.toList ++ rest))) : W p l e R s m args below meth c H locs cells slots Q (F0 m pc ls st) :=
  cont_wr (W.runS S hM (va_cwS nA S.2.2.2.2 hg rfl hrm.1 hrm.2 hd hR) hp rfl hn hsz hst (lv_room hw) hdg hf) hS hA kk
theorem cont_pureR {g : JFrame} {v : Value} {a : Array Value} (hr : va_Run p l e R s m args below meth c H locs cells slots 0 0 g rest (qV (some v) a) (fun _ => False)) (kk : W p l e R s m args below meth c H locs cells slots Q { g with pc := g.pc + 3, stack := v :: rest }) : W p l e R s m args below meth c H locs cells slots Q g := by
  intro T hT X
  obtain ⟨v', st₀, t, T', L, h0, X', hL, e1, -, ⟨hv, hh⟩, st⟩ := hr T hT X
  cases hv
  obtain ⟨t2, a1, b1⟩ := kk T' (by rw [e1, hh, h0]) (Stand.forget X' (fun q h => (hL q h).elim))
  exact ⟨t2, st t2 a1, b1⟩
/-- a private static method of a nest mate -/
theorem cPSN (S : CallFix p m c cc nL s args wsL_law own) {y : MethodName} {host : String} {bz : ByteArray} {mL idx nA : Nat} {r : Option FieldType} {rm : Room} {As st : List Value} {v : Value} (hM : Met l y (wsU y bz mL r) rm (va_Pc As (fun _ => True)) (qV (some v)) 0 0 (fun _ => False)) (hlk : va_Nw (.methodLinkNest own idx y host) s) (m2 : Cond.static y ∈ wsL_law) (m4 : Cond.initialized y.cls ∈ wsL_law) (m5 : Cond.code y bz mL r ∈ wsL_law)
    (hd : y.cls ≠ "java/lang/invoke/MethodHandle" ∧ y.cls ≠ "java/lang/invoke/VarHandle" ∧ (parseMethodDescriptor y.desc).map (fun d => d.parameters.length) = some nA) (hrm : rm.cells = 0 ∧ rm.slots = 0) (hR : rm.frames + 1 ≤ R.frames ∧ 8 + (mL + 11) + rm.locals ≤ R.locals)
    (hn : As.length = nA) (hsz : ls.size = nL) (hst : st = As.reverse ++ rest) (hw : (rest.map fun v => v.category).sum ≤ 8) (hf : cells ≤ R.cells ∧ slots ≤ R.slots) (hdg : decode cc pc = .ok (.invokestatic idx, 3)) (kk : W p l e R s m args below meth c H locs cells slots Q (F0 m (pc + 3) ls (v :: rest))) : W p l e R s m args below meth c H locs cells slots Q (F0 m pc ls st) :=
  cont_pureR (va_runSN S hM ⟨va_cnB nA S.2.2.2.2 (goodUL m5) rfl hrm.1 hrm.2 hlk (S.2.2.2.2 _ m4) hd hR, S.2.2.2.2 _ m2, trivial⟩ ⟨blindT, fun _ _ _ => ⟨rfl, trivial⟩⟩ rfl hn hsz hst (lv_room hw) hdg hf) kk
end BASE2
/-- a method's entry -/
theorem ent {l : Launch} {y : MethodName} {b : ByteArray} {nL : Nat} {ret : Option FieldType} {rm : Room} {As : List Value} {Pre : State → Prop} {Qc : Array Value → State → Outcome → State → Prop} {mc ms : Nat} {free : Addr → Prop} (hy : plainName y.cls = true) (hlen : (lg_sl As).length ≤ nL)
    (body : ∀ (p : Program) (e : Env) (s : State) (m : MethodId) (below : List Frame) (meth : Method) (c : Code), CallFix p m c b nL s As.toArray wsL_law y.cls → meth.sig.returnType = ret → meth.locks = false → Pre s → ∀ ls : Array Slot, lv_has ls nL (lv_args 0 As) →
      W p l e rm s m As.toArray below meth c s.heap [] 0 0 (MQ below Qc As.toArray s mc ms free) (F0 m 0 ls [])) : Met l y (wsU y b nL ret) rm (va_Pc As Pre) Qc mc ms free := by
  refine Met.ofW (cc := b) (maxL := nL) (ret := ret) hy rfl ?_
  intro p e s m args below meth c s₁ B hml hv
  obtain ⟨rfl, hpre⟩ := hv
  have hts := atoms_spec (ws := wsU y b nL ret) B.pre
  have hown : s.vm.findClass y.cls = some m.cls := findClass_of_methodNamed B.named
  have hl := lv_entry As (n := nL) hlen
  rw [lg_entry_eq]
  generalize (lg_sl As ++ List.replicate (nL - (lg_sl As).length) Slot.unset).toArray = ls at hl ⊢
  exact body p e s m below meth c ⟨B.exec, B.bytes, hml, hown, fun w h => hts w (List.mem_cons_of_mem _ h)⟩ B.returns B.notSynchronized hpre ls hl
end
section
/-- class ids of int[], long[], Meter[], Sheet[], Ticket[] -/
abbrev Gc : Type := ClassId × ClassId × ClassId × ClassId × ClassId
abbrev tysG (G : Gc) : List (ClassId × FieldType) := [(G.1, .int), (G.2.1, .long), (G.2.2.1, .object RX0), (G.2.2.2.1, .object RX2), (G.2.2.2.2, .object RX3)]
/-- how many cells of each kind the class has: M METERS, T TICKETS -/
def XN (M T : Nat) (k : Nat) : Nat := match k with
  | 0 => 1 | 1 => 1 | 2 => 1 | 3 => 1 | 4 => 1 | 5 => 1 | 6 => 4 | 7 => 4 | 8 => M | 9 => M | 10 => M | 11 => M | 12 => M | 13 => T | _ => 0
/-- the cell of a kind and index: 0 object, 1 meters[], 2 proof, 3 counts[], 4 tickets[], 5 sheets[], 6 Sheet, 7 cells[], 8 Meter, 9 hows[], 10 flows[], 11 days[], 12 numbers[], 13 Ticket -/
def XF (G : Gc) (M T : Nat) (ad : Nat → Nat → Nat) (k i : Nat) (v : Nat → Int32) (w : Nat → Int64) : va_E := match k with
  | 0 => .inr (4, [.ref (ad 1 0), .int (v 1), .ref (ad 2 0), .ref (ad 4 0), .int (v 4), .int (v 5), .ref (ad 5 0), .int (v 7), .int (v 8)])
  | 1 => .inl (G.2.2.1, 6, .inr (.inr (.inr (.inr (fun j => if j < M then some (ad 8 j) else none)))))
  | 2 => .inr (1, [.int (v 0), .int (v 1), .int (v 2), .int (v 3), .ref (ad 3 0), .int (v 5)])
  | 3 => .inl (G.2.1, 12, .inr (.inl w))
  | 4 => .inl (G.2.2.2.2, 40, .inr (.inr (.inr (.inr (fun j => if j < T then some (ad 13 j) else none)))))
  | 5 => .inl (G.2.2.2.1, 4, .inr (.inr (.inr (.inr (fun j => if j < 4 then some (ad 6 j) else none)))))
  | 6 => .inr (2, [.ref (ad 7 i), .int (v 1), .int (v 2), .int (v 3)])
  | 7 => .inl (G.1, 60, .inl v)
  | 8 => .inr (0, [.int (v 0), .int (v 1), .ref (ad 9 i), .ref (ad 10 i), .ref (ad 11 i), .ref (ad 12 i), .int (v 6)])
  | 9 => .inl (G.1, 4, .inl v)
  | 10 => .inl (G.1, 12, .inl v)
  | 11 => .inl (G.1, 12, .inl v)
  | 12 => .inl (G.1, 12, .inl v)
  | _ => .inr (3, [.int (v 0), .int (v 1), .int (v 2), .int (v 3), .int (v 4), .int (v 5), .int (v 6), .int (v 7)])
def MN (k : Nat) : Nat := match k with
  | 0 => 1 | 2 => 1 | 3 => 1 | 4 => 1 | 5 => 1 | 6 => 1 | 7 => 1 | 9 => 1 | 10 => 1 | 11 => 1 | 16 => 1 | 18 => 1 | 19 => 1 | 20 => 1 | 21 => 1 | 22 => 1 | 23 => 1 | 24 => 1 | 25 => 1 | 27 => 1 | 28 => 1 | 29 => 1 | 30 => 1 | 31 => 1 | _ => 0
def MF (G : Gc) (ad : Nat → Nat → Nat) (k i : Nat) (v : Nat → Int32) (w : Nat → Int64) : va_E := match k with
  | 0 => .inr (5, [.int (v 0), .int (v 1), .ref (ad 2 0), .ref (ad 3 0), .ref (ad 4 0), .ref (ad 5 0), .ref (ad 6 0), .ref (ad 7 0), .int (v 8), .ref (ad 9 0), .ref (ad 10 0), .ref (ad 11 0), .int (v 12), .int (v 13), .int (v 14), .int (v 15), .ref (ad 16 0), .int (v 17), .ref (ad 18 0), .ref (ad 19 0), .ref (ad 20 0), .ref (ad 21 0), .ref (ad 22 0), .ref (ad 23 0), .ref (ad 24 0), .ref (ad 25 0), .int (v 26), .ref (ad 27 0), .ref (ad 28 0), .ref (ad 29 0), .ref (ad 30 0), .ref (ad 31 0), .int (v 32)])
  | 2 => .inl (G.1, 6, .inl v)
  | 3 => .inl (G.1, 6, .inl v)
  | 4 => .inl (G.1, 72, .inl v)
  | 5 => .inl (G.1, 72, .inl v)
  | 6 => .inl (G.1, 72, .inl v)
  | 7 => .inl (G.1, 6, .inl v)
  | 9 => .inl (G.1, 13, .inl v)
  | 10 => .inl (G.1, 13, .inl v)
  | 11 => .inl (G.1, 13, .inl v)
  | 16 => .inl (G.2.1, 12, .inr (.inl w))
  | 18 => .inl (G.1, 40, .inl v)
  | 19 => .inl (G.1, 40, .inl v)
  | 20 => .inl (G.1, 40, .inl v)
  | 21 => .inl (G.1, 40, .inl v)
  | 22 => .inl (G.1, 40, .inl v)
  | 23 => .inl (G.1, 40, .inl v)
  | 24 => .inl (G.1, 40, .inl v)
  | 25 => .inl (G.1, 40, .inl v)
  | 27 => .inl (G.1, 24, .inl v)
  | 28 => .inl (G.1, 4, .inl v)
  | 29 => .inl (G.1, 4, .inl v)
  | 30 => .inl (G.1, 240, .inl v)
  | _ => .inl (G.1, 60, .inl v)
section PICS
variable {p : Program} {l : Launch} {e : Env} {R : Room} {s : State} {m : MethodId} {args : Array Value} {below : List Frame} {meth : Method} {c : Code} {H : Heap} {locs : List Loc} {cells slots : Nat} {Q : State → Prop}
variable {cc : ByteArray} {nL pc : Nat} {ls : Array Slot} {rest : List Value} {D : va_G} {A : Nat → Prop} {G : Gc} {H0 : Heap} {own : String} {M T : Nat} {ad : Nat → Nat → Nat} {d : Dt}
theorem gf_RX1_9 (S : CallFix p m c cc nL s args wsL_law RX1) (hK : va_K D vwCl (tysG G) s) (hX : PIC D (XF G M T ad) (XN M T) ad d H) {v : Int32} (hv : d.1 2 0 0 = v) (hdg : decode cc pc = .ok (.getfield 9, 3)) (kk : W p l e R s m args below meth c H locs cells slots Q (F0 m (pc + 3) ls (.int v :: rest))) : W p l e R s m args below meth c H locs cells slots Q (F0 m pc ls (.ref (ad 2 0) :: rest)) := by
  subst hv
  exact xget S inlX1 hK hX (k := 2) (i := 0) Nat.zero_lt_one rfl rfl 0 (by decide) wFL_RX1_9 rfl rfl hdg kk
theorem pf_RX1_9 (S : CallFix p m c cc nL s args wsL_law RX1) (hK : va_K D vwCl (tysG G) s) (hX : PIC D (XF G M T ad) (XN M T) ad d H) (hS : va_S (adS (XN M T) ad) H0 H locs) {x : Int32} (hz : narrow .boolean (.int x) = .int x) (hz2 : fits .boolean (.int x) = true) (hdg : decode cc pc = .ok (.putfield 9, 3)) (kk : ∀ (H1 : Heap) (locs1 : List Loc), PIC D (XF G M T ad) (XN M T) ad (uv d 2 0 0 x) H1 → va_S (adS (XN M T) ad) H0 H1 locs1 → W p l e R s m args below meth c H1 locs1 cells slots Q (F0 m (pc + 3) ls rest)) : W p l e R s m args below meth c H locs cells slots Q (F0 m pc ls (.int x :: .ref (ad 2 0) :: rest)) :=
  xput S inlX1 tyX1 tyX1_ok nmX1 hK hX hS (k := 2) (i := 0) Nat.zero_lt_one (adS_in (k := 2) Nat.zero_lt_one) rfl rfl 0 (by decide) rfl wFL_RX1_9 rfl (ty := .boolean) rfl hz hz2 (Nat.le_of_ble_eq_true rfl) rfl hdg kk
theorem gf_RX4_108 (S : CallFix p m c cc nL s args wsL_law RX4) (hK : va_K D vwCl (tysG G) s) (hX : PIC D (XF G M T ad) (XN M T) ad d H) {v : Int32} (hv : d.1 2 0 0 = v) (hdg : decode cc pc = .ok (.getfield 108, 3)) (kk : W p l e R s m args below meth c H locs cells slots Q (F0 m (pc + 3) ls (.int v :: rest))) : W p l e R s m args below meth c H locs cells slots Q (F0 m pc ls (.ref (ad 2 0) :: rest)) := by
  subst hv
  exact xget S inlX1 hK hX (k := 2) (i := 0) Nat.zero_lt_one rfl rfl 0 (by decide) wFL_RX4_108 rfl rfl hdg kk
theorem pf_RX4_108 (S : CallFix p m c cc nL s args wsL_law RX4) (hK : va_K D vwCl (tysG G) s) (hX : PIC D (XF G M T ad) (XN M T) ad d H) (hS : va_S (adS (XN M T) ad) H0 H locs) {x : Int32} (hz : narrow .boolean (.int x) = .int x) (hz2 : fits .boolean (.int x) = true) (hdg : decode cc pc = .ok (.putfield 108, 3)) (kk : ∀ (H1 : Heap) (locs1 : List Loc), PIC D (XF G M T ad) (XN M T) ad (uv d 2 0 0 x) H1 → va_S (adS (XN M T) ad) H0 H1 locs1 → W p l e R s m args below meth c H1 locs1 cells slots Q (F0 m (pc + 3) ls rest)) : W p l e R s m args below meth c H locs cells slots Q (F0 m pc ls (.int x :: .ref (ad 2 0) :: rest)) :=
  xput S inlX1 tyX1 tyX1_ok nmX1 hK hX hS (k := 2) (i := 0) Nat.zero_lt_one (adS_in (k := 2) Nat.zero_lt_one) rfl rfl 0 (by decide) rfl wFL_RX4_108 rfl (ty := .boolean) rfl hz hz2 (Nat.le_of_ble_eq_true rfl) rfl hdg kk
theorem gf_RX1_15 (S : CallFix p m c cc nL s args wsL_law RX1) (hK : va_K D vwCl (tysG G) s) (hX : PIC D (XF G M T ad) (XN M T) ad d H) {v : Int32} (hv : d.1 2 0 1 = v) (hdg : decode cc pc = .ok (.getfield 15, 3)) (kk : W p l e R s m args below meth c H locs cells slots Q (F0 m (pc + 3) ls (.int v :: rest))) : W p l e R s m args below meth c H locs cells slots Q (F0 m pc ls (.ref (ad 2 0) :: rest)) := by
  subst hv
  exact xget S inlX1 hK hX (k := 2) (i := 0) Nat.zero_lt_one rfl rfl 1 (by decide) wFL_RX1_15 rfl rfl hdg kk
theorem pf_RX1_15 (S : CallFix p m c cc nL s args wsL_law RX1) (hK : va_K D vwCl (tysG G) s) (hX : PIC D (XF G M T ad) (XN M T) ad d H) (hS : va_S (adS (XN M T) ad) H0 H locs) {x : Int32} (hdg : decode cc pc = .ok (.putfield 15, 3)) (kk : ∀ (H1 : Heap) (locs1 : List Loc), PIC D (XF G M T ad) (XN M T) ad (uv d 2 0 1 x) H1 → va_S (adS (XN M T) ad) H0 H1 locs1 → W p l e R s m args below meth c H1 locs1 cells slots Q (F0 m (pc + 3) ls rest)) : W p l e R s m args below meth c H locs cells slots Q (F0 m pc ls (.int x :: .ref (ad 2 0) :: rest)) :=
  xput S inlX1 tyX1 tyX1_ok nmX1 hK hX hS (k := 2) (i := 0) Nat.zero_lt_one (adS_in (k := 2) Nat.zero_lt_one) rfl rfl 1 (by decide) rfl wFL_RX1_15 rfl (ty := .int) rfl rfl rfl (Nat.le_of_ble_eq_true rfl) rfl hdg kk
theorem gf_RX4_124 (S : CallFix p m c cc nL s args wsL_law RX4) (hK : va_K D vwCl (tysG G) s) (hX : PIC D (XF G M T ad) (XN M T) ad d H) {v : Int32} (hv : d.1 2 0 1 = v) (hdg : decode cc pc = .ok (.getfield 124, 3)) (kk : W p l e R s m args below meth c H locs cells slots Q (F0 m (pc + 3) ls (.int v :: rest))) : W p l e R s m args below meth c H locs cells slots Q (F0 m pc ls (.ref (ad 2 0) :: rest)) := by
  subst hv
  exact xget S inlX1 hK hX (k := 2) (i := 0) Nat.zero_lt_one rfl rfl 1 (by decide) wFL_RX4_124 rfl rfl hdg kk
theorem pf_RX4_124 (S : CallFix p m c cc nL s args wsL_law RX4) (hK : va_K D vwCl (tysG G) s) (hX : PIC D (XF G M T ad) (XN M T) ad d H) (hS : va_S (adS (XN M T) ad) H0 H locs) {x : Int32} (hdg : decode cc pc = .ok (.putfield 124, 3)) (kk : ∀ (H1 : Heap) (locs1 : List Loc), PIC D (XF G M T ad) (XN M T) ad (uv d 2 0 1 x) H1 → va_S (adS (XN M T) ad) H0 H1 locs1 → W p l e R s m args below meth c H1 locs1 cells slots Q (F0 m (pc + 3) ls rest)) : W p l e R s m args below meth c H locs cells slots Q (F0 m pc ls (.int x :: .ref (ad 2 0) :: rest)) :=
  xput S inlX1 tyX1 tyX1_ok nmX1 hK hX hS (k := 2) (i := 0) Nat.zero_lt_one (adS_in (k := 2) Nat.zero_lt_one) rfl rfl 1 (by decide) rfl wFL_RX4_124 rfl (ty := .int) rfl rfl rfl (Nat.le_of_ble_eq_true rfl) rfl hdg kk
theorem gf_RX1_19 (S : CallFix p m c cc nL s args wsL_law RX1) (hK : va_K D vwCl (tysG G) s) (hX : PIC D (XF G M T ad) (XN M T) ad d H) {v : Int32} (hv : d.1 2 0 2 = v) (hdg : decode cc pc = .ok (.getfield 19, 3)) (kk : W p l e R s m args below meth c H locs cells slots Q (F0 m (pc + 3) ls (.int v :: rest))) : W p l e R s m args below meth c H locs cells slots Q (F0 m pc ls (.ref (ad 2 0) :: rest)) := by
  subst hv
  exact xget S inlX1 hK hX (k := 2) (i := 0) Nat.zero_lt_one rfl rfl 2 (by decide) wFL_RX1_19 rfl rfl hdg kk
theorem pf_RX1_19 (S : CallFix p m c cc nL s args wsL_law RX1) (hK : va_K D vwCl (tysG G) s) (hX : PIC D (XF G M T ad) (XN M T) ad d H) (hS : va_S (adS (XN M T) ad) H0 H locs) {x : Int32} (hdg : decode cc pc = .ok (.putfield 19, 3)) (kk : ∀ (H1 : Heap) (locs1 : List Loc), PIC D (XF G M T ad) (XN M T) ad (uv d 2 0 2 x) H1 → va_S (adS (XN M T) ad) H0 H1 locs1 → W p l e R s m args below meth c H1 locs1 cells slots Q (F0 m (pc + 3) ls rest)) : W p l e R s m args below meth c H locs cells slots Q (F0 m pc ls (.int x :: .ref (ad 2 0) :: rest)) :=
  xput S inlX1 tyX1 tyX1_ok nmX1 hK hX hS (k := 2) (i := 0) Nat.zero_lt_one (adS_in (k := 2) Nat.zero_lt_one) rfl rfl 2 (by decide) rfl wFL_RX1_19 rfl (ty := .int) rfl rfl rfl (Nat.le_of_ble_eq_true rfl) rfl hdg kk
theorem gf_RX4_127 (S : CallFix p m c cc nL s args wsL_law RX4) (hK : va_K D vwCl (tysG G) s) (hX : PIC D (XF G M T ad) (XN M T) ad d H) {v : Int32} (hv : d.1 2 0 2 = v) (hdg : decode cc pc = .ok (.getfield 127, 3)) (kk : W p l e R s m args below meth c H locs cells slots Q (F0 m (pc + 3) ls (.int v :: rest))) : W p l e R s m args below meth c H locs cells slots Q (F0 m pc ls (.ref (ad 2 0) :: rest)) := by
  subst hv
  exact xget S inlX1 hK hX (k := 2) (i := 0) Nat.zero_lt_one rfl rfl 2 (by decide) wFL_RX4_127 rfl rfl hdg kk
theorem pf_RX4_127 (S : CallFix p m c cc nL s args wsL_law RX4) (hK : va_K D vwCl (tysG G) s) (hX : PIC D (XF G M T ad) (XN M T) ad d H) (hS : va_S (adS (XN M T) ad) H0 H locs) {x : Int32} (hdg : decode cc pc = .ok (.putfield 127, 3)) (kk : ∀ (H1 : Heap) (locs1 : List Loc), PIC D (XF G M T ad) (XN M T) ad (uv d 2 0 2 x) H1 → va_S (adS (XN M T) ad) H0 H1 locs1 → W p l e R s m args below meth c H1 locs1 cells slots Q (F0 m (pc + 3) ls rest)) : W p l e R s m args below meth c H locs cells slots Q (F0 m pc ls (.int x :: .ref (ad 2 0) :: rest)) :=
  xput S inlX1 tyX1 tyX1_ok nmX1 hK hX hS (k := 2) (i := 0) Nat.zero_lt_one (adS_in (k := 2) Nat.zero_lt_one) rfl rfl 2 (by decide) rfl wFL_RX4_127 rfl (ty := .int) rfl rfl rfl (Nat.le_of_ble_eq_true rfl) rfl hdg kk
theorem gf_RX1_22 (S : CallFix p m c cc nL s args wsL_law RX1) (hK : va_K D vwCl (tysG G) s) (hX : PIC D (XF G M T ad) (XN M T) ad d H) {v : Int32} (hv : d.1 2 0 3 = v) (hdg : decode cc pc = .ok (.getfield 22, 3)) (kk : W p l e R s m args below meth c H locs cells slots Q (F0 m (pc + 3) ls (.int v :: rest))) : W p l e R s m args below meth c H locs cells slots Q (F0 m pc ls (.ref (ad 2 0) :: rest)) := by
  subst hv
  exact xget S inlX1 hK hX (k := 2) (i := 0) Nat.zero_lt_one rfl rfl 3 (by decide) wFL_RX1_22 rfl rfl hdg kk
theorem pf_RX1_22 (S : CallFix p m c cc nL s args wsL_law RX1) (hK : va_K D vwCl (tysG G) s) (hX : PIC D (XF G M T ad) (XN M T) ad d H) (hS : va_S (adS (XN M T) ad) H0 H locs) {x : Int32} (hdg : decode cc pc = .ok (.putfield 22, 3)) (kk : ∀ (H1 : Heap) (locs1 : List Loc), PIC D (XF G M T ad) (XN M T) ad (uv d 2 0 3 x) H1 → va_S (adS (XN M T) ad) H0 H1 locs1 → W p l e R s m args below meth c H1 locs1 cells slots Q (F0 m (pc + 3) ls rest)) : W p l e R s m args below meth c H locs cells slots Q (F0 m pc ls (.int x :: .ref (ad 2 0) :: rest)) :=
  xput S inlX1 tyX1 tyX1_ok nmX1 hK hX hS (k := 2) (i := 0) Nat.zero_lt_one (adS_in (k := 2) Nat.zero_lt_one) rfl rfl 3 (by decide) rfl wFL_RX1_22 rfl (ty := .int) rfl rfl rfl (Nat.le_of_ble_eq_true rfl) rfl hdg kk
theorem gf_RX1_25 (S : CallFix p m c cc nL s args wsL_law RX1) (hK : va_K D vwCl (tysG G) s) (hX : PIC D (XF G M T ad) (XN M T) ad d H) (hdg : decode cc pc = .ok (.getfield 25, 3)) (kk : W p l e R s m args below meth c H locs cells slots Q (F0 m (pc + 3) ls (.ref (ad 3 0) :: rest))) : W p l e R s m args below meth c H locs cells slots Q (F0 m pc ls (.ref (ad 2 0) :: rest)) :=
  xget S inlX1 hK hX (k := 2) (i := 0) Nat.zero_lt_one rfl rfl 4 (by decide) wFL_RX1_25 rfl rfl hdg kk
theorem gf_RX4_117 (S : CallFix p m c cc nL s args wsL_law RX4) (hK : va_K D vwCl (tysG G) s) (hX : PIC D (XF G M T ad) (XN M T) ad d H) (hdg : decode cc pc = .ok (.getfield 117, 3)) (kk : W p l e R s m args below meth c H locs cells slots Q (F0 m (pc + 3) ls (.ref (ad 3 0) :: rest))) : W p l e R s m args below meth c H locs cells slots Q (F0 m pc ls (.ref (ad 2 0) :: rest)) :=
  xget S inlX1 hK hX (k := 2) (i := 0) Nat.zero_lt_one rfl rfl 4 (by decide) wFL_RX4_117 rfl rfl hdg kk
theorem gf_RX1_29 (S : CallFix p m c cc nL s args wsL_law RX1) (hK : va_K D vwCl (tysG G) s) (hX : PIC D (XF G M T ad) (XN M T) ad d H) {v : Int32} (hv : d.1 2 0 5 = v) (hdg : decode cc pc = .ok (.getfield 29, 3)) (kk : W p l e R s m args below meth c H locs cells slots Q (F0 m (pc + 3) ls (.int v :: rest))) : W p l e R s m args below meth c H locs cells slots Q (F0 m pc ls (.ref (ad 2 0) :: rest)) := by
  subst hv
  exact xget S inlX1 hK hX (k := 2) (i := 0) Nat.zero_lt_one rfl rfl 5 (by decide) wFL_RX1_29 rfl rfl hdg kk
theorem pf_RX1_29 (S : CallFix p m c cc nL s args wsL_law RX1) (hK : va_K D vwCl (tysG G) s) (hX : PIC D (XF G M T ad) (XN M T) ad d H) (hS : va_S (adS (XN M T) ad) H0 H locs) {x : Int32} (hdg : decode cc pc = .ok (.putfield 29, 3)) (kk : ∀ (H1 : Heap) (locs1 : List Loc), PIC D (XF G M T ad) (XN M T) ad (uv d 2 0 5 x) H1 → va_S (adS (XN M T) ad) H0 H1 locs1 → W p l e R s m args below meth c H1 locs1 cells slots Q (F0 m (pc + 3) ls rest)) : W p l e R s m args below meth c H locs cells slots Q (F0 m pc ls (.int x :: .ref (ad 2 0) :: rest)) :=
  xput S inlX1 tyX1 tyX1_ok nmX1 hK hX hS (k := 2) (i := 0) Nat.zero_lt_one (adS_in (k := 2) Nat.zero_lt_one) rfl rfl 5 (by decide) rfl wFL_RX1_29 rfl (ty := .int) rfl rfl rfl (Nat.le_of_ble_eq_true rfl) rfl hdg kk
theorem gf_RX4_112 (S : CallFix p m c cc nL s args wsL_law RX4) (hK : va_K D vwCl (tysG G) s) (hX : PIC D (XF G M T ad) (XN M T) ad d H) {v : Int32} (hv : d.1 2 0 5 = v) (hdg : decode cc pc = .ok (.getfield 112, 3)) (kk : W p l e R s m args below meth c H locs cells slots Q (F0 m (pc + 3) ls (.int v :: rest))) : W p l e R s m args below meth c H locs cells slots Q (F0 m pc ls (.ref (ad 2 0) :: rest)) := by
  subst hv
  exact xget S inlX1 hK hX (k := 2) (i := 0) Nat.zero_lt_one rfl rfl 5 (by decide) wFL_RX4_112 rfl rfl hdg kk
theorem pf_RX4_112 (S : CallFix p m c cc nL s args wsL_law RX4) (hK : va_K D vwCl (tysG G) s) (hX : PIC D (XF G M T ad) (XN M T) ad d H) (hS : va_S (adS (XN M T) ad) H0 H locs) {x : Int32} (hdg : decode cc pc = .ok (.putfield 112, 3)) (kk : ∀ (H1 : Heap) (locs1 : List Loc), PIC D (XF G M T ad) (XN M T) ad (uv d 2 0 5 x) H1 → va_S (adS (XN M T) ad) H0 H1 locs1 → W p l e R s m args below meth c H1 locs1 cells slots Q (F0 m (pc + 3) ls rest)) : W p l e R s m args below meth c H locs cells slots Q (F0 m pc ls (.int x :: .ref (ad 2 0) :: rest)) :=
  xput S inlX1 tyX1 tyX1_ok nmX1 hK hX hS (k := 2) (i := 0) Nat.zero_lt_one (adS_in (k := 2) Nat.zero_lt_one) rfl rfl 5 (by decide) rfl wFL_RX4_112 rfl (ty := .int) rfl rfl rfl (Nat.le_of_ble_eq_true rfl) rfl hdg kk
theorem gf_RX2_9 (S : CallFix p m c cc nL s args wsL_law RX2) (hK : va_K D vwCl (tysG G) s) (hX : PIC D (XF G M T ad) (XN M T) ad d H) {i : Nat} (hi : i < 4) (hdg : decode cc pc = .ok (.getfield 9, 3)) (kk : W p l e R s m args below meth c H locs cells slots Q (F0 m (pc + 3) ls (.ref (ad 7 i) :: rest))) : W p l e R s m args below meth c H locs cells slots Q (F0 m pc ls (.ref (ad 6 i) :: rest)) :=
  xget S inlX2 hK hX (k := 6) (i := i) hi rfl rfl 0 (by decide) wFL_RX2_9 rfl rfl hdg kk
theorem gf_RX4_253 (S : CallFix p m c cc nL s args wsL_law RX4) (hK : va_K D vwCl (tysG G) s) (hX : PIC D (XF G M T ad) (XN M T) ad d H) {i : Nat} (hi : i < 4) (hdg : decode cc pc = .ok (.getfield 253, 3)) (kk : W p l e R s m args below meth c H locs cells slots Q (F0 m (pc + 3) ls (.ref (ad 7 i) :: rest))) : W p l e R s m args below meth c H locs cells slots Q (F0 m pc ls (.ref (ad 6 i) :: rest)) :=
  xget S inlX2 hK hX (k := 6) (i := i) hi rfl rfl 0 (by decide) wFL_RX4_253 rfl rfl hdg kk
theorem gf_RX2_15 (S : CallFix p m c cc nL s args wsL_law RX2) (hK : va_K D vwCl (tysG G) s) (hX : PIC D (XF G M T ad) (XN M T) ad d H) {i : Nat} (hi : i < 4) {v : Int32} (hv : d.1 6 i 1 = v) (hdg : decode cc pc = .ok (.getfield 15, 3)) (kk : W p l e R s m args below meth c H locs cells slots Q (F0 m (pc + 3) ls (.int v :: rest))) : W p l e R s m args below meth c H locs cells slots Q (F0 m pc ls (.ref (ad 6 i) :: rest)) := by
  subst hv
  exact xget S inlX2 hK hX (k := 6) (i := i) hi rfl rfl 1 (by decide) wFL_RX2_15 rfl rfl hdg kk
theorem pf_RX2_15 (S : CallFix p m c cc nL s args wsL_law RX2) (hK : va_K D vwCl (tysG G) s) (hX : PIC D (XF G M T ad) (XN M T) ad d H) (hS : va_S (adS (XN M T) ad) H0 H locs) {i : Nat} (hi : i < 4) {x : Int32} (hz : narrow .boolean (.int x) = .int x) (hz2 : fits .boolean (.int x) = true) (hdg : decode cc pc = .ok (.putfield 15, 3)) (kk : ∀ (H1 : Heap) (locs1 : List Loc), PIC D (XF G M T ad) (XN M T) ad (uv d 6 i 1 x) H1 → va_S (adS (XN M T) ad) H0 H1 locs1 → W p l e R s m args below meth c H1 locs1 cells slots Q (F0 m (pc + 3) ls rest)) : W p l e R s m args below meth c H locs cells slots Q (F0 m pc ls (.int x :: .ref (ad 6 i) :: rest)) :=
  xput S inlX2 tyX2 tyX2_ok nmX2 hK hX hS (k := 6) (i := i) hi (adS_in (k := 6) hi) rfl rfl 1 (by decide) rfl wFL_RX2_15 rfl (ty := .boolean) rfl hz hz2 (Nat.le_of_ble_eq_true rfl) rfl hdg kk
theorem gf_RX4_241 (S : CallFix p m c cc nL s args wsL_law RX4) (hK : va_K D vwCl (tysG G) s) (hX : PIC D (XF G M T ad) (XN M T) ad d H) {i : Nat} (hi : i < 4) {v : Int32} (hv : d.1 6 i 1 = v) (hdg : decode cc pc = .ok (.getfield 241, 3)) (kk : W p l e R s m args below meth c H locs cells slots Q (F0 m (pc + 3) ls (.int v :: rest))) : W p l e R s m args below meth c H locs cells slots Q (F0 m pc ls (.ref (ad 6 i) :: rest)) := by
  subst hv
  exact xget S inlX2 hK hX (k := 6) (i := i) hi rfl rfl 1 (by decide) wFL_RX4_241 rfl rfl hdg kk
theorem pf_RX4_241 (S : CallFix p m c cc nL s args wsL_law RX4) (hK : va_K D vwCl (tysG G) s) (hX : PIC D (XF G M T ad) (XN M T) ad d H) (hS : va_S (adS (XN M T) ad) H0 H locs) {i : Nat} (hi : i < 4) {x : Int32} (hz : narrow .boolean (.int x) = .int x) (hz2 : fits .boolean (.int x) = true) (hdg : decode cc pc = .ok (.putfield 241, 3)) (kk : ∀ (H1 : Heap) (locs1 : List Loc), PIC D (XF G M T ad) (XN M T) ad (uv d 6 i 1 x) H1 → va_S (adS (XN M T) ad) H0 H1 locs1 → W p l e R s m args below meth c H1 locs1 cells slots Q (F0 m (pc + 3) ls rest)) : W p l e R s m args below meth c H locs cells slots Q (F0 m pc ls (.int x :: .ref (ad 6 i) :: rest)) :=
  xput S inlX2 tyX2 tyX2_ok nmX2 hK hX hS (k := 6) (i := i) hi (adS_in (k := 6) hi) rfl rfl 1 (by decide) rfl wFL_RX4_241 rfl (ty := .boolean) rfl hz hz2 (Nat.le_of_ble_eq_true rfl) rfl hdg kk
theorem gf_RX2_19 (S : CallFix p m c cc nL s args wsL_law RX2) (hK : va_K D vwCl (tysG G) s) (hX : PIC D (XF G M T ad) (XN M T) ad d H) {i : Nat} (hi : i < 4) {v : Int32} (hv : d.1 6 i 2 = v) (hdg : decode cc pc = .ok (.getfield 19, 3)) (kk : W p l e R s m args below meth c H locs cells slots Q (F0 m (pc + 3) ls (.int v :: rest))) : W p l e R s m args below meth c H locs cells slots Q (F0 m pc ls (.ref (ad 6 i) :: rest)) := by
  subst hv
  exact xget S inlX2 hK hX (k := 6) (i := i) hi rfl rfl 2 (by decide) wFL_RX2_19 rfl rfl hdg kk
theorem pf_RX2_19 (S : CallFix p m c cc nL s args wsL_law RX2) (hK : va_K D vwCl (tysG G) s) (hX : PIC D (XF G M T ad) (XN M T) ad d H) (hS : va_S (adS (XN M T) ad) H0 H locs) {i : Nat} (hi : i < 4) {x : Int32} (hdg : decode cc pc = .ok (.putfield 19, 3)) (kk : ∀ (H1 : Heap) (locs1 : List Loc), PIC D (XF G M T ad) (XN M T) ad (uv d 6 i 2 x) H1 → va_S (adS (XN M T) ad) H0 H1 locs1 → W p l e R s m args below meth c H1 locs1 cells slots Q (F0 m (pc + 3) ls rest)) : W p l e R s m args below meth c H locs cells slots Q (F0 m pc ls (.int x :: .ref (ad 6 i) :: rest)) :=
  xput S inlX2 tyX2 tyX2_ok nmX2 hK hX hS (k := 6) (i := i) hi (adS_in (k := 6) hi) rfl rfl 2 (by decide) rfl wFL_RX2_19 rfl (ty := .int) rfl rfl rfl (Nat.le_of_ble_eq_true rfl) rfl hdg kk
theorem gf_RX4_256 (S : CallFix p m c cc nL s args wsL_law RX4) (hK : va_K D vwCl (tysG G) s) (hX : PIC D (XF G M T ad) (XN M T) ad d H) {i : Nat} (hi : i < 4) {v : Int32} (hv : d.1 6 i 2 = v) (hdg : decode cc pc = .ok (.getfield 256, 3)) (kk : W p l e R s m args below meth c H locs cells slots Q (F0 m (pc + 3) ls (.int v :: rest))) : W p l e R s m args below meth c H locs cells slots Q (F0 m pc ls (.ref (ad 6 i) :: rest)) := by
  subst hv
  exact xget S inlX2 hK hX (k := 6) (i := i) hi rfl rfl 2 (by decide) wFL_RX4_256 rfl rfl hdg kk
theorem pf_RX4_256 (S : CallFix p m c cc nL s args wsL_law RX4) (hK : va_K D vwCl (tysG G) s) (hX : PIC D (XF G M T ad) (XN M T) ad d H) (hS : va_S (adS (XN M T) ad) H0 H locs) {i : Nat} (hi : i < 4) {x : Int32} (hdg : decode cc pc = .ok (.putfield 256, 3)) (kk : ∀ (H1 : Heap) (locs1 : List Loc), PIC D (XF G M T ad) (XN M T) ad (uv d 6 i 2 x) H1 → va_S (adS (XN M T) ad) H0 H1 locs1 → W p l e R s m args below meth c H1 locs1 cells slots Q (F0 m (pc + 3) ls rest)) : W p l e R s m args below meth c H locs cells slots Q (F0 m pc ls (.int x :: .ref (ad 6 i) :: rest)) :=
  xput S inlX2 tyX2 tyX2_ok nmX2 hK hX hS (k := 6) (i := i) hi (adS_in (k := 6) hi) rfl rfl 2 (by decide) rfl wFL_RX4_256 rfl (ty := .int) rfl rfl rfl (Nat.le_of_ble_eq_true rfl) rfl hdg kk
theorem gf_RX2_23 (S : CallFix p m c cc nL s args wsL_law RX2) (hK : va_K D vwCl (tysG G) s) (hX : PIC D (XF G M T ad) (XN M T) ad d H) {i : Nat} (hi : i < 4) {v : Int32} (hv : d.1 6 i 3 = v) (hdg : decode cc pc = .ok (.getfield 23, 3)) (kk : W p l e R s m args below meth c H locs cells slots Q (F0 m (pc + 3) ls (.int v :: rest))) : W p l e R s m args below meth c H locs cells slots Q (F0 m pc ls (.ref (ad 6 i) :: rest)) := by
  subst hv
  exact xget S inlX2 hK hX (k := 6) (i := i) hi rfl rfl 3 (by decide) wFL_RX2_23 rfl rfl hdg kk
theorem pf_RX2_23 (S : CallFix p m c cc nL s args wsL_law RX2) (hK : va_K D vwCl (tysG G) s) (hX : PIC D (XF G M T ad) (XN M T) ad d H) (hS : va_S (adS (XN M T) ad) H0 H locs) {i : Nat} (hi : i < 4) {x : Int32} (hdg : decode cc pc = .ok (.putfield 23, 3)) (kk : ∀ (H1 : Heap) (locs1 : List Loc), PIC D (XF G M T ad) (XN M T) ad (uv d 6 i 3 x) H1 → va_S (adS (XN M T) ad) H0 H1 locs1 → W p l e R s m args below meth c H1 locs1 cells slots Q (F0 m (pc + 3) ls rest)) : W p l e R s m args below meth c H locs cells slots Q (F0 m pc ls (.int x :: .ref (ad 6 i) :: rest)) :=
  xput S inlX2 tyX2 tyX2_ok nmX2 hK hX hS (k := 6) (i := i) hi (adS_in (k := 6) hi) rfl rfl 3 (by decide) rfl wFL_RX2_23 rfl (ty := .int) rfl rfl rfl (Nat.le_of_ble_eq_true rfl) rfl hdg kk
theorem gf_RX4_13 (S : CallFix p m c cc nL s args wsL_law RX4) (hK : va_K D vwCl (tysG G) s) (hX : PIC D (XF G M T ad) (XN M T) ad d H) (hdg : decode cc pc = .ok (.getfield 13, 3)) (kk : W p l e R s m args below meth c H locs cells slots Q (F0 m (pc + 3) ls (.ref (ad 1 0) :: rest))) : W p l e R s m args below meth c H locs cells slots Q (F0 m pc ls (.ref (ad 0 0) :: rest)) :=
  xget S inlX4 hK hX (k := 0) (i := 0) Nat.zero_lt_one rfl rfl 0 (by decide) wFL_RX4_13 rfl rfl hdg kk
theorem gf_RX4_17 (S : CallFix p m c cc nL s args wsL_law RX4) (hK : va_K D vwCl (tysG G) s) (hX : PIC D (XF G M T ad) (XN M T) ad d H) {v : Int32} (hv : d.1 0 0 1 = v) (hdg : decode cc pc = .ok (.getfield 17, 3)) (kk : W p l e R s m args below meth c H locs cells slots Q (F0 m (pc + 3) ls (.int v :: rest))) : W p l e R s m args below meth c H locs cells slots Q (F0 m pc ls (.ref (ad 0 0) :: rest)) := by
  subst hv
  exact xget S inlX4 hK hX (k := 0) (i := 0) Nat.zero_lt_one rfl rfl 1 (by decide) wFL_RX4_17 rfl rfl hdg kk
theorem pf_RX4_17 (S : CallFix p m c cc nL s args wsL_law RX4) (hK : va_K D vwCl (tysG G) s) (hX : PIC D (XF G M T ad) (XN M T) ad d H) (hS : va_S (adS (XN M T) ad) H0 H locs) {x : Int32} (hdg : decode cc pc = .ok (.putfield 17, 3)) (kk : ∀ (H1 : Heap) (locs1 : List Loc), PIC D (XF G M T ad) (XN M T) ad (uv d 0 0 1 x) H1 → va_S (adS (XN M T) ad) H0 H1 locs1 → W p l e R s m args below meth c H1 locs1 cells slots Q (F0 m (pc + 3) ls rest)) : W p l e R s m args below meth c H locs cells slots Q (F0 m pc ls (.int x :: .ref (ad 0 0) :: rest)) :=
  xput S inlX4 tyX4 tyX4_ok nmX4 hK hX hS (k := 0) (i := 0) Nat.zero_lt_one (adS_in (k := 0) Nat.zero_lt_one) rfl rfl 1 (by decide) rfl wFL_RX4_17 rfl (ty := .int) rfl rfl rfl (Nat.le_of_ble_eq_true rfl) rfl hdg kk
theorem gf_RX4_24 (S : CallFix p m c cc nL s args wsL_law RX4) (hK : va_K D vwCl (tysG G) s) (hX : PIC D (XF G M T ad) (XN M T) ad d H) (hdg : decode cc pc = .ok (.getfield 24, 3)) (kk : W p l e R s m args below meth c H locs cells slots Q (F0 m (pc + 3) ls (.ref (ad 2 0) :: rest))) : W p l e R s m args below meth c H locs cells slots Q (F0 m pc ls (.ref (ad 0 0) :: rest)) :=
  xget S inlX4 hK hX (k := 0) (i := 0) Nat.zero_lt_one rfl rfl 2 (by decide) wFL_RX4_24 rfl rfl hdg kk
theorem gf_RX4_30 (S : CallFix p m c cc nL s args wsL_law RX4) (hK : va_K D vwCl (tysG G) s) (hX : PIC D (XF G M T ad) (XN M T) ad d H) (hdg : decode cc pc = .ok (.getfield 30, 3)) (kk : W p l e R s m args below meth c H locs cells slots Q (F0 m (pc + 3) ls (.ref (ad 4 0) :: rest))) : W p l e R s m args below meth c H locs cells slots Q (F0 m pc ls (.ref (ad 0 0) :: rest)) :=
  xget S inlX4 hK hX (k := 0) (i := 0) Nat.zero_lt_one rfl rfl 3 (by decide) wFL_RX4_30 rfl rfl hdg kk
theorem gf_RX4_34 (S : CallFix p m c cc nL s args wsL_law RX4) (hK : va_K D vwCl (tysG G) s) (hX : PIC D (XF G M T ad) (XN M T) ad d H) {v : Int32} (hv : d.1 0 0 4 = v) (hdg : decode cc pc = .ok (.getfield 34, 3)) (kk : W p l e R s m args below meth c H locs cells slots Q (F0 m (pc + 3) ls (.int v :: rest))) : W p l e R s m args below meth c H locs cells slots Q (F0 m pc ls (.ref (ad 0 0) :: rest)) := by
  subst hv
  exact xget S inlX4 hK hX (k := 0) (i := 0) Nat.zero_lt_one rfl rfl 4 (by decide) wFL_RX4_34 rfl rfl hdg kk
theorem pf_RX4_34 (S : CallFix p m c cc nL s args wsL_law RX4) (hK : va_K D vwCl (tysG G) s) (hX : PIC D (XF G M T ad) (XN M T) ad d H) (hS : va_S (adS (XN M T) ad) H0 H locs) {x : Int32} (hdg : decode cc pc = .ok (.putfield 34, 3)) (kk : ∀ (H1 : Heap) (locs1 : List Loc), PIC D (XF G M T ad) (XN M T) ad (uv d 0 0 4 x) H1 → va_S (adS (XN M T) ad) H0 H1 locs1 → W p l e R s m args below meth c H1 locs1 cells slots Q (F0 m (pc + 3) ls rest)) : W p l e R s m args below meth c H locs cells slots Q (F0 m pc ls (.int x :: .ref (ad 0 0) :: rest)) :=
  xput S inlX4 tyX4 tyX4_ok nmX4 hK hX hS (k := 0) (i := 0) Nat.zero_lt_one (adS_in (k := 0) Nat.zero_lt_one) rfl rfl 4 (by decide) rfl wFL_RX4_34 rfl (ty := .int) rfl rfl rfl (Nat.le_of_ble_eq_true rfl) rfl hdg kk
theorem gf_RX4_37 (S : CallFix p m c cc nL s args wsL_law RX4) (hK : va_K D vwCl (tysG G) s) (hX : PIC D (XF G M T ad) (XN M T) ad d H) {v : Int32} (hv : d.1 0 0 5 = v) (hdg : decode cc pc = .ok (.getfield 37, 3)) (kk : W p l e R s m args below meth c H locs cells slots Q (F0 m (pc + 3) ls (.int v :: rest))) : W p l e R s m args below meth c H locs cells slots Q (F0 m pc ls (.ref (ad 0 0) :: rest)) := by
  subst hv
  exact xget S inlX4 hK hX (k := 0) (i := 0) Nat.zero_lt_one rfl rfl 5 (by decide) wFL_RX4_37 rfl rfl hdg kk
theorem pf_RX4_37 (S : CallFix p m c cc nL s args wsL_law RX4) (hK : va_K D vwCl (tysG G) s) (hX : PIC D (XF G M T ad) (XN M T) ad d H) (hS : va_S (adS (XN M T) ad) H0 H locs) {x : Int32} (hdg : decode cc pc = .ok (.putfield 37, 3)) (kk : ∀ (H1 : Heap) (locs1 : List Loc), PIC D (XF G M T ad) (XN M T) ad (uv d 0 0 5 x) H1 → va_S (adS (XN M T) ad) H0 H1 locs1 → W p l e R s m args below meth c H1 locs1 cells slots Q (F0 m (pc + 3) ls rest)) : W p l e R s m args below meth c H locs cells slots Q (F0 m pc ls (.int x :: .ref (ad 0 0) :: rest)) :=
  xput S inlX4 tyX4 tyX4_ok nmX4 hK hX hS (k := 0) (i := 0) Nat.zero_lt_one (adS_in (k := 0) Nat.zero_lt_one) rfl rfl 5 (by decide) rfl wFL_RX4_37 rfl (ty := .int) rfl rfl rfl (Nat.le_of_ble_eq_true rfl) rfl hdg kk
theorem gf_RX4_42 (S : CallFix p m c cc nL s args wsL_law RX4) (hK : va_K D vwCl (tysG G) s) (hX : PIC D (XF G M T ad) (XN M T) ad d H) (hdg : decode cc pc = .ok (.getfield 42, 3)) (kk : W p l e R s m args below meth c H locs cells slots Q (F0 m (pc + 3) ls (.ref (ad 5 0) :: rest))) : W p l e R s m args below meth c H locs cells slots Q (F0 m pc ls (.ref (ad 0 0) :: rest)) :=
  xget S inlX4 hK hX (k := 0) (i := 0) Nat.zero_lt_one rfl rfl 6 (by decide) wFL_RX4_42 rfl rfl hdg kk
theorem gf_RX4_46 (S : CallFix p m c cc nL s args wsL_law RX4) (hK : va_K D vwCl (tysG G) s) (hX : PIC D (XF G M T ad) (XN M T) ad d H) {v : Int32} (hv : d.1 0 0 7 = v) (hdg : decode cc pc = .ok (.getfield 46, 3)) (kk : W p l e R s m args below meth c H locs cells slots Q (F0 m (pc + 3) ls (.int v :: rest))) : W p l e R s m args below meth c H locs cells slots Q (F0 m pc ls (.ref (ad 0 0) :: rest)) := by
  subst hv
  exact xget S inlX4 hK hX (k := 0) (i := 0) Nat.zero_lt_one rfl rfl 7 (by decide) wFL_RX4_46 rfl rfl hdg kk
theorem pf_RX4_46 (S : CallFix p m c cc nL s args wsL_law RX4) (hK : va_K D vwCl (tysG G) s) (hX : PIC D (XF G M T ad) (XN M T) ad d H) (hS : va_S (adS (XN M T) ad) H0 H locs) {x : Int32} (hdg : decode cc pc = .ok (.putfield 46, 3)) (kk : ∀ (H1 : Heap) (locs1 : List Loc), PIC D (XF G M T ad) (XN M T) ad (uv d 0 0 7 x) H1 → va_S (adS (XN M T) ad) H0 H1 locs1 → W p l e R s m args below meth c H1 locs1 cells slots Q (F0 m (pc + 3) ls rest)) : W p l e R s m args below meth c H locs cells slots Q (F0 m pc ls (.int x :: .ref (ad 0 0) :: rest)) :=
  xput S inlX4 tyX4 tyX4_ok nmX4 hK hX hS (k := 0) (i := 0) Nat.zero_lt_one (adS_in (k := 0) Nat.zero_lt_one) rfl rfl 7 (by decide) rfl wFL_RX4_46 rfl (ty := .int) rfl rfl rfl (Nat.le_of_ble_eq_true rfl) rfl hdg kk
theorem gf_RX4_49 (S : CallFix p m c cc nL s args wsL_law RX4) (hK : va_K D vwCl (tysG G) s) (hX : PIC D (XF G M T ad) (XN M T) ad d H) {v : Int32} (hv : d.1 0 0 8 = v) (hdg : decode cc pc = .ok (.getfield 49, 3)) (kk : W p l e R s m args below meth c H locs cells slots Q (F0 m (pc + 3) ls (.int v :: rest))) : W p l e R s m args below meth c H locs cells slots Q (F0 m pc ls (.ref (ad 0 0) :: rest)) := by
  subst hv
  exact xget S inlX4 hK hX (k := 0) (i := 0) Nat.zero_lt_one rfl rfl 8 (by decide) wFL_RX4_49 rfl rfl hdg kk
theorem pf_RX4_49 (S : CallFix p m c cc nL s args wsL_law RX4) (hK : va_K D vwCl (tysG G) s) (hX : PIC D (XF G M T ad) (XN M T) ad d H) (hS : va_S (adS (XN M T) ad) H0 H locs) {x : Int32} (hdg : decode cc pc = .ok (.putfield 49, 3)) (kk : ∀ (H1 : Heap) (locs1 : List Loc), PIC D (XF G M T ad) (XN M T) ad (uv d 0 0 8 x) H1 → va_S (adS (XN M T) ad) H0 H1 locs1 → W p l e R s m args below meth c H1 locs1 cells slots Q (F0 m (pc + 3) ls rest)) : W p l e R s m args below meth c H locs cells slots Q (F0 m pc ls (.int x :: .ref (ad 0 0) :: rest)) :=
  xput S inlX4 tyX4 tyX4_ok nmX4 hK hX hS (k := 0) (i := 0) Nat.zero_lt_one (adS_in (k := 0) Nat.zero_lt_one) rfl rfl 8 (by decide) rfl wFL_RX4_49 rfl (ty := .int) rfl rfl rfl (Nat.le_of_ble_eq_true rfl) rfl hdg kk
theorem gf_RX0_31 (S : CallFix p m c cc nL s args wsL_law RX0) (hK : va_K D vwCl (tysG G) s) (hX : PIC D (XF G M T ad) (XN M T) ad d H) {i : Nat} (hi : i < M) {v : Int32} (hv : d.1 8 i 0 = v) (hdg : decode cc pc = .ok (.getfield 31, 3)) (kk : W p l e R s m args below meth c H locs cells slots Q (F0 m (pc + 3) ls (.int v :: rest))) : W p l e R s m args below meth c H locs cells slots Q (F0 m pc ls (.ref (ad 8 i) :: rest)) := by
  subst hv
  exact xget S inlX0 hK hX (k := 8) (i := i) hi rfl rfl 0 (by decide) wFL_RX0_31 rfl rfl hdg kk
theorem gf_RX4_130 (S : CallFix p m c cc nL s args wsL_law RX4) (hK : va_K D vwCl (tysG G) s) (hX : PIC D (XF G M T ad) (XN M T) ad d H) {i : Nat} (hi : i < M) {v : Int32} (hv : d.1 8 i 0 = v) (hdg : decode cc pc = .ok (.getfield 130, 3)) (kk : W p l e R s m args below meth c H locs cells slots Q (F0 m (pc + 3) ls (.int v :: rest))) : W p l e R s m args below meth c H locs cells slots Q (F0 m pc ls (.ref (ad 8 i) :: rest)) := by
  subst hv
  exact xget S inlX0 hK hX (k := 8) (i := i) hi rfl rfl 0 (by decide) wFL_RX4_130 rfl rfl hdg kk
theorem gf_RX0_9 (S : CallFix p m c cc nL s args wsL_law RX0) (hK : va_K D vwCl (tysG G) s) (hX : PIC D (XF G M T ad) (XN M T) ad d H) {i : Nat} (hi : i < M) {v : Int32} (hv : d.1 8 i 1 = v) (hdg : decode cc pc = .ok (.getfield 9, 3)) (kk : W p l e R s m args below meth c H locs cells slots Q (F0 m (pc + 3) ls (.int v :: rest))) : W p l e R s m args below meth c H locs cells slots Q (F0 m pc ls (.ref (ad 8 i) :: rest)) := by
  subst hv
  exact xget S inlX0 hK hX (k := 8) (i := i) hi rfl rfl 1 (by decide) wFL_RX0_9 rfl rfl hdg kk
theorem pf_RX0_9 (S : CallFix p m c cc nL s args wsL_law RX0) (hK : va_K D vwCl (tysG G) s) (hX : PIC D (XF G M T ad) (XN M T) ad d H) (hS : va_S (adS (XN M T) ad) H0 H locs) {i : Nat} (hi : i < M) {x : Int32} (hdg : decode cc pc = .ok (.putfield 9, 3)) (kk : ∀ (H1 : Heap) (locs1 : List Loc), PIC D (XF G M T ad) (XN M T) ad (uv d 8 i 1 x) H1 → va_S (adS (XN M T) ad) H0 H1 locs1 → W p l e R s m args below meth c H1 locs1 cells slots Q (F0 m (pc + 3) ls rest)) : W p l e R s m args below meth c H locs cells slots Q (F0 m pc ls (.int x :: .ref (ad 8 i) :: rest)) :=
  xput S inlX0 tyX0 tyX0_ok nmX0 hK hX hS (k := 8) (i := i) hi (adS_in (k := 8) hi) rfl rfl 1 (by decide) rfl wFL_RX0_9 rfl (ty := .int) rfl rfl rfl (Nat.le_of_ble_eq_true rfl) rfl hdg kk
theorem gf_RX4_203 (S : CallFix p m c cc nL s args wsL_law RX4) (hK : va_K D vwCl (tysG G) s) (hX : PIC D (XF G M T ad) (XN M T) ad d H) {i : Nat} (hi : i < M) {v : Int32} (hv : d.1 8 i 1 = v) (hdg : decode cc pc = .ok (.getfield 203, 3)) (kk : W p l e R s m args below meth c H locs cells slots Q (F0 m (pc + 3) ls (.int v :: rest))) : W p l e R s m args below meth c H locs cells slots Q (F0 m pc ls (.ref (ad 8 i) :: rest)) := by
  subst hv
  exact xget S inlX0 hK hX (k := 8) (i := i) hi rfl rfl 1 (by decide) wFL_RX4_203 rfl rfl hdg kk
theorem pf_RX4_203 (S : CallFix p m c cc nL s args wsL_law RX4) (hK : va_K D vwCl (tysG G) s) (hX : PIC D (XF G M T ad) (XN M T) ad d H) (hS : va_S (adS (XN M T) ad) H0 H locs) {i : Nat} (hi : i < M) {x : Int32} (hdg : decode cc pc = .ok (.putfield 203, 3)) (kk : ∀ (H1 : Heap) (locs1 : List Loc), PIC D (XF G M T ad) (XN M T) ad (uv d 8 i 1 x) H1 → va_S (adS (XN M T) ad) H0 H1 locs1 → W p l e R s m args below meth c H1 locs1 cells slots Q (F0 m (pc + 3) ls rest)) : W p l e R s m args below meth c H locs cells slots Q (F0 m pc ls (.int x :: .ref (ad 8 i) :: rest)) :=
  xput S inlX0 tyX0 tyX0_ok nmX0 hK hX hS (k := 8) (i := i) hi (adS_in (k := 8) hi) rfl rfl 1 (by decide) rfl wFL_RX4_203 rfl (ty := .int) rfl rfl rfl (Nat.le_of_ble_eq_true rfl) rfl hdg kk
theorem gf_RX0_15 (S : CallFix p m c cc nL s args wsL_law RX0) (hK : va_K D vwCl (tysG G) s) (hX : PIC D (XF G M T ad) (XN M T) ad d H) {i : Nat} (hi : i < M) (hdg : decode cc pc = .ok (.getfield 15, 3)) (kk : W p l e R s m args below meth c H locs cells slots Q (F0 m (pc + 3) ls (.ref (ad 9 i) :: rest))) : W p l e R s m args below meth c H locs cells slots Q (F0 m pc ls (.ref (ad 8 i) :: rest)) :=
  xget S inlX0 hK hX (k := 8) (i := i) hi rfl rfl 2 (by decide) wFL_RX0_15 rfl rfl hdg kk
theorem gf_RX4_200 (S : CallFix p m c cc nL s args wsL_law RX4) (hK : va_K D vwCl (tysG G) s) (hX : PIC D (XF G M T ad) (XN M T) ad d H) {i : Nat} (hi : i < M) (hdg : decode cc pc = .ok (.getfield 200, 3)) (kk : W p l e R s m args below meth c H locs cells slots Q (F0 m (pc + 3) ls (.ref (ad 9 i) :: rest))) : W p l e R s m args below meth c H locs cells slots Q (F0 m pc ls (.ref (ad 8 i) :: rest)) :=
  xget S inlX0 hK hX (k := 8) (i := i) hi rfl rfl 2 (by decide) wFL_RX4_200 rfl rfl hdg kk
theorem gf_RX0_19 (S : CallFix p m c cc nL s args wsL_law RX0) (hK : va_K D vwCl (tysG G) s) (hX : PIC D (XF G M T ad) (XN M T) ad d H) {i : Nat} (hi : i < M) (hdg : decode cc pc = .ok (.getfield 19, 3)) (kk : W p l e R s m args below meth c H locs cells slots Q (F0 m (pc + 3) ls (.ref (ad 10 i) :: rest))) : W p l e R s m args below meth c H locs cells slots Q (F0 m pc ls (.ref (ad 8 i) :: rest)) :=
  xget S inlX0 hK hX (k := 8) (i := i) hi rfl rfl 3 (by decide) wFL_RX0_19 rfl rfl hdg kk
theorem gf_RX4_95 (S : CallFix p m c cc nL s args wsL_law RX4) (hK : va_K D vwCl (tysG G) s) (hX : PIC D (XF G M T ad) (XN M T) ad d H) {i : Nat} (hi : i < M) (hdg : decode cc pc = .ok (.getfield 95, 3)) (kk : W p l e R s m args below meth c H locs cells slots Q (F0 m (pc + 3) ls (.ref (ad 10 i) :: rest))) : W p l e R s m args below meth c H locs cells slots Q (F0 m pc ls (.ref (ad 8 i) :: rest)) :=
  xget S inlX0 hK hX (k := 8) (i := i) hi rfl rfl 3 (by decide) wFL_RX4_95 rfl rfl hdg kk
theorem gf_RX0_22 (S : CallFix p m c cc nL s args wsL_law RX0) (hK : va_K D vwCl (tysG G) s) (hX : PIC D (XF G M T ad) (XN M T) ad d H) {i : Nat} (hi : i < M) (hdg : decode cc pc = .ok (.getfield 22, 3)) (kk : W p l e R s m args below meth c H locs cells slots Q (F0 m (pc + 3) ls (.ref (ad 11 i) :: rest))) : W p l e R s m args below meth c H locs cells slots Q (F0 m pc ls (.ref (ad 8 i) :: rest)) :=
  xget S inlX0 hK hX (k := 8) (i := i) hi rfl rfl 4 (by decide) wFL_RX0_22 rfl rfl hdg kk
theorem gf_RX0_25 (S : CallFix p m c cc nL s args wsL_law RX0) (hK : va_K D vwCl (tysG G) s) (hX : PIC D (XF G M T ad) (XN M T) ad d H) {i : Nat} (hi : i < M) (hdg : decode cc pc = .ok (.getfield 25, 3)) (kk : W p l e R s m args below meth c H locs cells slots Q (F0 m (pc + 3) ls (.ref (ad 12 i) :: rest))) : W p l e R s m args below meth c H locs cells slots Q (F0 m pc ls (.ref (ad 8 i) :: rest)) :=
  xget S inlX0 hK hX (k := 8) (i := i) hi rfl rfl 5 (by decide) wFL_RX0_25 rfl rfl hdg kk
theorem gf_RX4_99 (S : CallFix p m c cc nL s args wsL_law RX4) (hK : va_K D vwCl (tysG G) s) (hX : PIC D (XF G M T ad) (XN M T) ad d H) {i : Nat} (hi : i < M) (hdg : decode cc pc = .ok (.getfield 99, 3)) (kk : W p l e R s m args below meth c H locs cells slots Q (F0 m (pc + 3) ls (.ref (ad 12 i) :: rest))) : W p l e R s m args below meth c H locs cells slots Q (F0 m pc ls (.ref (ad 8 i) :: rest)) :=
  xget S inlX0 hK hX (k := 8) (i := i) hi rfl rfl 5 (by decide) wFL_RX4_99 rfl rfl hdg kk
theorem gf_RX0_28 (S : CallFix p m c cc nL s args wsL_law RX0) (hK : va_K D vwCl (tysG G) s) (hX : PIC D (XF G M T ad) (XN M T) ad d H) {i : Nat} (hi : i < M) {v : Int32} (hv : d.1 8 i 6 = v) (hdg : decode cc pc = .ok (.getfield 28, 3)) (kk : W p l e R s m args below meth c H locs cells slots Q (F0 m (pc + 3) ls (.int v :: rest))) : W p l e R s m args below meth c H locs cells slots Q (F0 m pc ls (.ref (ad 8 i) :: rest)) := by
  subst hv
  exact xget S inlX0 hK hX (k := 8) (i := i) hi rfl rfl 6 (by decide) wFL_RX0_28 rfl rfl hdg kk
theorem pf_RX0_28 (S : CallFix p m c cc nL s args wsL_law RX0) (hK : va_K D vwCl (tysG G) s) (hX : PIC D (XF G M T ad) (XN M T) ad d H) (hS : va_S (adS (XN M T) ad) H0 H locs) {i : Nat} (hi : i < M) {x : Int32} (hdg : decode cc pc = .ok (.putfield 28, 3)) (kk : ∀ (H1 : Heap) (locs1 : List Loc), PIC D (XF G M T ad) (XN M T) ad (uv d 8 i 6 x) H1 → va_S (adS (XN M T) ad) H0 H1 locs1 → W p l e R s m args below meth c H1 locs1 cells slots Q (F0 m (pc + 3) ls rest)) : W p l e R s m args below meth c H locs cells slots Q (F0 m pc ls (.int x :: .ref (ad 8 i) :: rest)) :=
  xput S inlX0 tyX0 tyX0_ok nmX0 hK hX hS (k := 8) (i := i) hi (adS_in (k := 8) hi) rfl rfl 6 (by decide) rfl wFL_RX0_28 rfl (ty := .int) rfl rfl rfl (Nat.le_of_ble_eq_true rfl) rfl hdg kk
theorem gf_RX4_81 (S : CallFix p m c cc nL s args wsL_law RX4) (hK : va_K D vwCl (tysG G) s) (hX : PIC D (XF G M T ad) (XN M T) ad d H) {i : Nat} (hi : i < M) {v : Int32} (hv : d.1 8 i 6 = v) (hdg : decode cc pc = .ok (.getfield 81, 3)) (kk : W p l e R s m args below meth c H locs cells slots Q (F0 m (pc + 3) ls (.int v :: rest))) : W p l e R s m args below meth c H locs cells slots Q (F0 m pc ls (.ref (ad 8 i) :: rest)) := by
  subst hv
  exact xget S inlX0 hK hX (k := 8) (i := i) hi rfl rfl 6 (by decide) wFL_RX4_81 rfl rfl hdg kk
theorem pf_RX4_81 (S : CallFix p m c cc nL s args wsL_law RX4) (hK : va_K D vwCl (tysG G) s) (hX : PIC D (XF G M T ad) (XN M T) ad d H) (hS : va_S (adS (XN M T) ad) H0 H locs) {i : Nat} (hi : i < M) {x : Int32} (hdg : decode cc pc = .ok (.putfield 81, 3)) (kk : ∀ (H1 : Heap) (locs1 : List Loc), PIC D (XF G M T ad) (XN M T) ad (uv d 8 i 6 x) H1 → va_S (adS (XN M T) ad) H0 H1 locs1 → W p l e R s m args below meth c H1 locs1 cells slots Q (F0 m (pc + 3) ls rest)) : W p l e R s m args below meth c H locs cells slots Q (F0 m pc ls (.int x :: .ref (ad 8 i) :: rest)) :=
  xput S inlX0 tyX0 tyX0_ok nmX0 hK hX hS (k := 8) (i := i) hi (adS_in (k := 8) hi) rfl rfl 6 (by decide) rfl wFL_RX4_81 rfl (ty := .int) rfl rfl rfl (Nat.le_of_ble_eq_true rfl) rfl hdg kk
theorem gf_RX3_21 (S : CallFix p m c cc nL s args wsL_law RX3) (hK : va_K D vwCl (tysG G) s) (hX : PIC D (XF G M T ad) (XN M T) ad d H) {i : Nat} (hi : i < T) {v : Int32} (hv : d.1 13 i 0 = v) (hdg : decode cc pc = .ok (.getfield 21, 3)) (kk : W p l e R s m args below meth c H locs cells slots Q (F0 m (pc + 3) ls (.int v :: rest))) : W p l e R s m args below meth c H locs cells slots Q (F0 m pc ls (.ref (ad 13 i) :: rest)) := by
  subst hv
  exact xget S inlX3 hK hX (k := 13) (i := i) hi rfl rfl 0 (by decide) wFL_RX3_21 rfl rfl hdg kk
theorem gf_RX4_178 (S : CallFix p m c cc nL s args wsL_law RX4) (hK : va_K D vwCl (tysG G) s) (hX : PIC D (XF G M T ad) (XN M T) ad d H) {i : Nat} (hi : i < T) {v : Int32} (hv : d.1 13 i 0 = v) (hdg : decode cc pc = .ok (.getfield 178, 3)) (kk : W p l e R s m args below meth c H locs cells slots Q (F0 m (pc + 3) ls (.int v :: rest))) : W p l e R s m args below meth c H locs cells slots Q (F0 m pc ls (.ref (ad 13 i) :: rest)) := by
  subst hv
  exact xget S inlX3 hK hX (k := 13) (i := i) hi rfl rfl 0 (by decide) wFL_RX4_178 rfl rfl hdg kk
theorem gf_RX3_24 (S : CallFix p m c cc nL s args wsL_law RX3) (hK : va_K D vwCl (tysG G) s) (hX : PIC D (XF G M T ad) (XN M T) ad d H) {i : Nat} (hi : i < T) {v : Int32} (hv : d.1 13 i 1 = v) (hdg : decode cc pc = .ok (.getfield 24, 3)) (kk : W p l e R s m args below meth c H locs cells slots Q (F0 m (pc + 3) ls (.int v :: rest))) : W p l e R s m args below meth c H locs cells slots Q (F0 m pc ls (.ref (ad 13 i) :: rest)) := by
  subst hv
  exact xget S inlX3 hK hX (k := 13) (i := i) hi rfl rfl 1 (by decide) wFL_RX3_24 rfl rfl hdg kk
theorem gf_RX4_158 (S : CallFix p m c cc nL s args wsL_law RX4) (hK : va_K D vwCl (tysG G) s) (hX : PIC D (XF G M T ad) (XN M T) ad d H) {i : Nat} (hi : i < T) {v : Int32} (hv : d.1 13 i 1 = v) (hdg : decode cc pc = .ok (.getfield 158, 3)) (kk : W p l e R s m args below meth c H locs cells slots Q (F0 m (pc + 3) ls (.int v :: rest))) : W p l e R s m args below meth c H locs cells slots Q (F0 m pc ls (.ref (ad 13 i) :: rest)) := by
  subst hv
  exact xget S inlX3 hK hX (k := 13) (i := i) hi rfl rfl 1 (by decide) wFL_RX4_158 rfl rfl hdg kk
theorem gf_RX3_27 (S : CallFix p m c cc nL s args wsL_law RX3) (hK : va_K D vwCl (tysG G) s) (hX : PIC D (XF G M T ad) (XN M T) ad d H) {i : Nat} (hi : i < T) {v : Int32} (hv : d.1 13 i 2 = v) (hdg : decode cc pc = .ok (.getfield 27, 3)) (kk : W p l e R s m args below meth c H locs cells slots Q (F0 m (pc + 3) ls (.int v :: rest))) : W p l e R s m args below meth c H locs cells slots Q (F0 m pc ls (.ref (ad 13 i) :: rest)) := by
  subst hv
  exact xget S inlX3 hK hX (k := 13) (i := i) hi rfl rfl 2 (by decide) wFL_RX3_27 rfl rfl hdg kk
theorem gf_RX4_172 (S : CallFix p m c cc nL s args wsL_law RX4) (hK : va_K D vwCl (tysG G) s) (hX : PIC D (XF G M T ad) (XN M T) ad d H) {i : Nat} (hi : i < T) {v : Int32} (hv : d.1 13 i 2 = v) (hdg : decode cc pc = .ok (.getfield 172, 3)) (kk : W p l e R s m args below meth c H locs cells slots Q (F0 m (pc + 3) ls (.int v :: rest))) : W p l e R s m args below meth c H locs cells slots Q (F0 m pc ls (.ref (ad 13 i) :: rest)) := by
  subst hv
  exact xget S inlX3 hK hX (k := 13) (i := i) hi rfl rfl 2 (by decide) wFL_RX4_172 rfl rfl hdg kk
theorem gf_RX3_30 (S : CallFix p m c cc nL s args wsL_law RX3) (hK : va_K D vwCl (tysG G) s) (hX : PIC D (XF G M T ad) (XN M T) ad d H) {i : Nat} (hi : i < T) {v : Int32} (hv : d.1 13 i 3 = v) (hdg : decode cc pc = .ok (.getfield 30, 3)) (kk : W p l e R s m args below meth c H locs cells slots Q (F0 m (pc + 3) ls (.int v :: rest))) : W p l e R s m args below meth c H locs cells slots Q (F0 m pc ls (.ref (ad 13 i) :: rest)) := by
  subst hv
  exact xget S inlX3 hK hX (k := 13) (i := i) hi rfl rfl 3 (by decide) wFL_RX3_30 rfl rfl hdg kk
theorem gf_RX4_179 (S : CallFix p m c cc nL s args wsL_law RX4) (hK : va_K D vwCl (tysG G) s) (hX : PIC D (XF G M T ad) (XN M T) ad d H) {i : Nat} (hi : i < T) {v : Int32} (hv : d.1 13 i 3 = v) (hdg : decode cc pc = .ok (.getfield 179, 3)) (kk : W p l e R s m args below meth c H locs cells slots Q (F0 m (pc + 3) ls (.int v :: rest))) : W p l e R s m args below meth c H locs cells slots Q (F0 m pc ls (.ref (ad 13 i) :: rest)) := by
  subst hv
  exact xget S inlX3 hK hX (k := 13) (i := i) hi rfl rfl 3 (by decide) wFL_RX4_179 rfl rfl hdg kk
theorem gf_RX3_33 (S : CallFix p m c cc nL s args wsL_law RX3) (hK : va_K D vwCl (tysG G) s) (hX : PIC D (XF G M T ad) (XN M T) ad d H) {i : Nat} (hi : i < T) {v : Int32} (hv : d.1 13 i 4 = v) (hdg : decode cc pc = .ok (.getfield 33, 3)) (kk : W p l e R s m args below meth c H locs cells slots Q (F0 m (pc + 3) ls (.int v :: rest))) : W p l e R s m args below meth c H locs cells slots Q (F0 m pc ls (.ref (ad 13 i) :: rest)) := by
  subst hv
  exact xget S inlX3 hK hX (k := 13) (i := i) hi rfl rfl 4 (by decide) wFL_RX3_33 rfl rfl hdg kk
theorem gf_RX4_180 (S : CallFix p m c cc nL s args wsL_law RX4) (hK : va_K D vwCl (tysG G) s) (hX : PIC D (XF G M T ad) (XN M T) ad d H) {i : Nat} (hi : i < T) {v : Int32} (hv : d.1 13 i 4 = v) (hdg : decode cc pc = .ok (.getfield 180, 3)) (kk : W p l e R s m args below meth c H locs cells slots Q (F0 m (pc + 3) ls (.int v :: rest))) : W p l e R s m args below meth c H locs cells slots Q (F0 m pc ls (.ref (ad 13 i) :: rest)) := by
  subst hv
  exact xget S inlX3 hK hX (k := 13) (i := i) hi rfl rfl 4 (by decide) wFL_RX4_180 rfl rfl hdg kk
theorem gf_RX3_9 (S : CallFix p m c cc nL s args wsL_law RX3) (hK : va_K D vwCl (tysG G) s) (hX : PIC D (XF G M T ad) (XN M T) ad d H) {i : Nat} (hi : i < T) {v : Int32} (hv : d.1 13 i 5 = v) (hdg : decode cc pc = .ok (.getfield 9, 3)) (kk : W p l e R s m args below meth c H locs cells slots Q (F0 m (pc + 3) ls (.int v :: rest))) : W p l e R s m args below meth c H locs cells slots Q (F0 m pc ls (.ref (ad 13 i) :: rest)) := by
  subst hv
  exact xget S inlX3 hK hX (k := 13) (i := i) hi rfl rfl 5 (by decide) wFL_RX3_9 rfl rfl hdg kk
theorem pf_RX3_9 (S : CallFix p m c cc nL s args wsL_law RX3) (hK : va_K D vwCl (tysG G) s) (hX : PIC D (XF G M T ad) (XN M T) ad d H) (hS : va_S (adS (XN M T) ad) H0 H locs) {i : Nat} (hi : i < T) {x : Int32} (hdg : decode cc pc = .ok (.putfield 9, 3)) (kk : ∀ (H1 : Heap) (locs1 : List Loc), PIC D (XF G M T ad) (XN M T) ad (uv d 13 i 5 x) H1 → va_S (adS (XN M T) ad) H0 H1 locs1 → W p l e R s m args below meth c H1 locs1 cells slots Q (F0 m (pc + 3) ls rest)) : W p l e R s m args below meth c H locs cells slots Q (F0 m pc ls (.int x :: .ref (ad 13 i) :: rest)) :=
  xput S inlX3 tyX3 tyX3_ok nmX3 hK hX hS (k := 13) (i := i) hi (adS_in (k := 13) hi) rfl rfl 5 (by decide) rfl wFL_RX3_9 rfl (ty := .int) rfl rfl rfl (Nat.le_of_ble_eq_true rfl) rfl hdg kk
theorem gf_RX4_175 (S : CallFix p m c cc nL s args wsL_law RX4) (hK : va_K D vwCl (tysG G) s) (hX : PIC D (XF G M T ad) (XN M T) ad d H) {i : Nat} (hi : i < T) {v : Int32} (hv : d.1 13 i 5 = v) (hdg : decode cc pc = .ok (.getfield 175, 3)) (kk : W p l e R s m args below meth c H locs cells slots Q (F0 m (pc + 3) ls (.int v :: rest))) : W p l e R s m args below meth c H locs cells slots Q (F0 m pc ls (.ref (ad 13 i) :: rest)) := by
  subst hv
  exact xget S inlX3 hK hX (k := 13) (i := i) hi rfl rfl 5 (by decide) wFL_RX4_175 rfl rfl hdg kk
theorem pf_RX4_175 (S : CallFix p m c cc nL s args wsL_law RX4) (hK : va_K D vwCl (tysG G) s) (hX : PIC D (XF G M T ad) (XN M T) ad d H) (hS : va_S (adS (XN M T) ad) H0 H locs) {i : Nat} (hi : i < T) {x : Int32} (hdg : decode cc pc = .ok (.putfield 175, 3)) (kk : ∀ (H1 : Heap) (locs1 : List Loc), PIC D (XF G M T ad) (XN M T) ad (uv d 13 i 5 x) H1 → va_S (adS (XN M T) ad) H0 H1 locs1 → W p l e R s m args below meth c H1 locs1 cells slots Q (F0 m (pc + 3) ls rest)) : W p l e R s m args below meth c H locs cells slots Q (F0 m pc ls (.int x :: .ref (ad 13 i) :: rest)) :=
  xput S inlX3 tyX3 tyX3_ok nmX3 hK hX hS (k := 13) (i := i) hi (adS_in (k := 13) hi) rfl rfl 5 (by decide) rfl wFL_RX4_175 rfl (ty := .int) rfl rfl rfl (Nat.le_of_ble_eq_true rfl) rfl hdg kk
theorem gf_RX3_15 (S : CallFix p m c cc nL s args wsL_law RX3) (hK : va_K D vwCl (tysG G) s) (hX : PIC D (XF G M T ad) (XN M T) ad d H) {i : Nat} (hi : i < T) {v : Int32} (hv : d.1 13 i 6 = v) (hdg : decode cc pc = .ok (.getfield 15, 3)) (kk : W p l e R s m args below meth c H locs cells slots Q (F0 m (pc + 3) ls (.int v :: rest))) : W p l e R s m args below meth c H locs cells slots Q (F0 m pc ls (.ref (ad 13 i) :: rest)) := by
  subst hv
  exact xget S inlX3 hK hX (k := 13) (i := i) hi rfl rfl 6 (by decide) wFL_RX3_15 rfl rfl hdg kk
theorem pf_RX3_15 (S : CallFix p m c cc nL s args wsL_law RX3) (hK : va_K D vwCl (tysG G) s) (hX : PIC D (XF G M T ad) (XN M T) ad d H) (hS : va_S (adS (XN M T) ad) H0 H locs) {i : Nat} (hi : i < T) {x : Int32} (hdg : decode cc pc = .ok (.putfield 15, 3)) (kk : ∀ (H1 : Heap) (locs1 : List Loc), PIC D (XF G M T ad) (XN M T) ad (uv d 13 i 6 x) H1 → va_S (adS (XN M T) ad) H0 H1 locs1 → W p l e R s m args below meth c H1 locs1 cells slots Q (F0 m (pc + 3) ls rest)) : W p l e R s m args below meth c H locs cells slots Q (F0 m pc ls (.int x :: .ref (ad 13 i) :: rest)) :=
  xput S inlX3 tyX3 tyX3_ok nmX3 hK hX hS (k := 13) (i := i) hi (adS_in (k := 13) hi) rfl rfl 6 (by decide) rfl wFL_RX3_15 rfl (ty := .int) rfl rfl rfl (Nat.le_of_ble_eq_true rfl) rfl hdg kk
theorem gf_RX4_183 (S : CallFix p m c cc nL s args wsL_law RX4) (hK : va_K D vwCl (tysG G) s) (hX : PIC D (XF G M T ad) (XN M T) ad d H) {i : Nat} (hi : i < T) {v : Int32} (hv : d.1 13 i 6 = v) (hdg : decode cc pc = .ok (.getfield 183, 3)) (kk : W p l e R s m args below meth c H locs cells slots Q (F0 m (pc + 3) ls (.int v :: rest))) : W p l e R s m args below meth c H locs cells slots Q (F0 m pc ls (.ref (ad 13 i) :: rest)) := by
  subst hv
  exact xget S inlX3 hK hX (k := 13) (i := i) hi rfl rfl 6 (by decide) wFL_RX4_183 rfl rfl hdg kk
theorem pf_RX4_183 (S : CallFix p m c cc nL s args wsL_law RX4) (hK : va_K D vwCl (tysG G) s) (hX : PIC D (XF G M T ad) (XN M T) ad d H) (hS : va_S (adS (XN M T) ad) H0 H locs) {i : Nat} (hi : i < T) {x : Int32} (hdg : decode cc pc = .ok (.putfield 183, 3)) (kk : ∀ (H1 : Heap) (locs1 : List Loc), PIC D (XF G M T ad) (XN M T) ad (uv d 13 i 6 x) H1 → va_S (adS (XN M T) ad) H0 H1 locs1 → W p l e R s m args below meth c H1 locs1 cells slots Q (F0 m (pc + 3) ls rest)) : W p l e R s m args below meth c H locs cells slots Q (F0 m pc ls (.int x :: .ref (ad 13 i) :: rest)) :=
  xput S inlX3 tyX3 tyX3_ok nmX3 hK hX hS (k := 13) (i := i) hi (adS_in (k := 13) hi) rfl rfl 6 (by decide) rfl wFL_RX4_183 rfl (ty := .int) rfl rfl rfl (Nat.le_of_ble_eq_true rfl) rfl hdg kk
theorem gf_RX3_18 (S : CallFix p m c cc nL s args wsL_law RX3) (hK : va_K D vwCl (tysG G) s) (hX : PIC D (XF G M T ad) (XN M T) ad d H) {i : Nat} (hi : i < T) {v : Int32} (hv : d.1 13 i 7 = v) (hdg : decode cc pc = .ok (.getfield 18, 3)) (kk : W p l e R s m args below meth c H locs cells slots Q (F0 m (pc + 3) ls (.int v :: rest))) : W p l e R s m args below meth c H locs cells slots Q (F0 m pc ls (.ref (ad 13 i) :: rest)) := by
  subst hv
  exact xget S inlX3 hK hX (k := 13) (i := i) hi rfl rfl 7 (by decide) wFL_RX3_18 rfl rfl hdg kk
theorem pf_RX3_18 (S : CallFix p m c cc nL s args wsL_law RX3) (hK : va_K D vwCl (tysG G) s) (hX : PIC D (XF G M T ad) (XN M T) ad d H) (hS : va_S (adS (XN M T) ad) H0 H locs) {i : Nat} (hi : i < T) {x : Int32} (hdg : decode cc pc = .ok (.putfield 18, 3)) (kk : ∀ (H1 : Heap) (locs1 : List Loc), PIC D (XF G M T ad) (XN M T) ad (uv d 13 i 7 x) H1 → va_S (adS (XN M T) ad) H0 H1 locs1 → W p l e R s m args below meth c H1 locs1 cells slots Q (F0 m (pc + 3) ls rest)) : W p l e R s m args below meth c H locs cells slots Q (F0 m pc ls (.int x :: .ref (ad 13 i) :: rest)) :=
  xput S inlX3 tyX3 tyX3_ok nmX3 hK hX hS (k := 13) (i := i) hi (adS_in (k := 13) hi) rfl rfl 7 (by decide) rfl wFL_RX3_18 rfl (ty := .int) rfl rfl rfl (Nat.le_of_ble_eq_true rfl) rfl hdg kk
theorem gf_RX4_186 (S : CallFix p m c cc nL s args wsL_law RX4) (hK : va_K D vwCl (tysG G) s) (hX : PIC D (XF G M T ad) (XN M T) ad d H) {i : Nat} (hi : i < T) {v : Int32} (hv : d.1 13 i 7 = v) (hdg : decode cc pc = .ok (.getfield 186, 3)) (kk : W p l e R s m args below meth c H locs cells slots Q (F0 m (pc + 3) ls (.int v :: rest))) : W p l e R s m args below meth c H locs cells slots Q (F0 m pc ls (.ref (ad 13 i) :: rest)) := by
  subst hv
  exact xget S inlX3 hK hX (k := 13) (i := i) hi rfl rfl 7 (by decide) wFL_RX4_186 rfl rfl hdg kk
theorem pf_RX4_186 (S : CallFix p m c cc nL s args wsL_law RX4) (hK : va_K D vwCl (tysG G) s) (hX : PIC D (XF G M T ad) (XN M T) ad d H) (hS : va_S (adS (XN M T) ad) H0 H locs) {i : Nat} (hi : i < T) {x : Int32} (hdg : decode cc pc = .ok (.putfield 186, 3)) (kk : ∀ (H1 : Heap) (locs1 : List Loc), PIC D (XF G M T ad) (XN M T) ad (uv d 13 i 7 x) H1 → va_S (adS (XN M T) ad) H0 H1 locs1 → W p l e R s m args below meth c H1 locs1 cells slots Q (F0 m (pc + 3) ls rest)) : W p l e R s m args below meth c H locs cells slots Q (F0 m pc ls (.int x :: .ref (ad 13 i) :: rest)) :=
  xput S inlX3 tyX3 tyX3_ok nmX3 hK hX hS (k := 13) (i := i) hi (adS_in (k := 13) hi) rfl rfl 7 (by decide) rfl wFL_RX4_186 rfl (ty := .int) rfl rfl rfl (Nat.le_of_ble_eq_true rfl) rfl hdg kk
theorem gf_RX5_89 (S : CallFix p m c cc nL s args wsL_law RX5) (hK : va_K D vwCl (tysG G) s) (hX : PIC D (MF G ad) MN ad d H) {v : Int32} (hv : d.1 0 0 0 = v) (hdg : decode cc pc = .ok (.getfield 89, 3)) (kk : W p l e R s m args below meth c H locs cells slots Q (F0 m (pc + 3) ls (.int v :: rest))) : W p l e R s m args below meth c H locs cells slots Q (F0 m pc ls (.ref (ad 0 0) :: rest)) := by
  subst hv
  exact xget S inlX5 hK hX (k := 0) (i := 0) Nat.zero_lt_one rfl rfl 0 (by decide) wFL_RX5_89 rfl rfl hdg kk
theorem pf_RX5_89 (S : CallFix p m c cc nL s args wsL_law RX5) (hK : va_K D vwCl (tysG G) s) (hX : PIC D (MF G ad) MN ad d H) (hS : va_S (adS MN ad) H0 H locs) {x : Int32} (hdg : decode cc pc = .ok (.putfield 89, 3)) (kk : ∀ (H1 : Heap) (locs1 : List Loc), PIC D (MF G ad) MN ad (uv d 0 0 0 x) H1 → va_S (adS MN ad) H0 H1 locs1 → W p l e R s m args below meth c H1 locs1 cells slots Q (F0 m (pc + 3) ls rest)) : W p l e R s m args below meth c H locs cells slots Q (F0 m pc ls (.int x :: .ref (ad 0 0) :: rest)) :=
  xput S inlX5 tyX5 tyX5_ok nmX5 hK hX hS (k := 0) (i := 0) Nat.zero_lt_one (adS_in (k := 0) Nat.zero_lt_one) rfl rfl 0 (by decide) rfl wFL_RX5_89 rfl (ty := .int) rfl rfl rfl (Nat.le_of_ble_eq_true rfl) rfl hdg kk
theorem gf_RX5_98 (S : CallFix p m c cc nL s args wsL_law RX5) (hK : va_K D vwCl (tysG G) s) (hX : PIC D (MF G ad) MN ad d H) {v : Int32} (hv : d.1 0 0 1 = v) (hdg : decode cc pc = .ok (.getfield 98, 3)) (kk : W p l e R s m args below meth c H locs cells slots Q (F0 m (pc + 3) ls (.int v :: rest))) : W p l e R s m args below meth c H locs cells slots Q (F0 m pc ls (.ref (ad 0 0) :: rest)) := by
  subst hv
  exact xget S inlX5 hK hX (k := 0) (i := 0) Nat.zero_lt_one rfl rfl 1 (by decide) wFL_RX5_98 rfl rfl hdg kk
theorem pf_RX5_98 (S : CallFix p m c cc nL s args wsL_law RX5) (hK : va_K D vwCl (tysG G) s) (hX : PIC D (MF G ad) MN ad d H) (hS : va_S (adS MN ad) H0 H locs) {x : Int32} (hdg : decode cc pc = .ok (.putfield 98, 3)) (kk : ∀ (H1 : Heap) (locs1 : List Loc), PIC D (MF G ad) MN ad (uv d 0 0 1 x) H1 → va_S (adS MN ad) H0 H1 locs1 → W p l e R s m args below meth c H1 locs1 cells slots Q (F0 m (pc + 3) ls rest)) : W p l e R s m args below meth c H locs cells slots Q (F0 m pc ls (.int x :: .ref (ad 0 0) :: rest)) :=
  xput S inlX5 tyX5 tyX5_ok nmX5 hK hX hS (k := 0) (i := 0) Nat.zero_lt_one (adS_in (k := 0) Nat.zero_lt_one) rfl rfl 1 (by decide) rfl wFL_RX5_98 rfl (ty := .int) rfl rfl rfl (Nat.le_of_ble_eq_true rfl) rfl hdg kk
theorem gf_RX5_7 (S : CallFix p m c cc nL s args wsL_law RX5) (hK : va_K D vwCl (tysG G) s) (hX : PIC D (MF G ad) MN ad d H) (hdg : decode cc pc = .ok (.getfield 7, 3)) (kk : W p l e R s m args below meth c H locs cells slots Q (F0 m (pc + 3) ls (.ref (ad 2 0) :: rest))) : W p l e R s m args below meth c H locs cells slots Q (F0 m pc ls (.ref (ad 0 0) :: rest)) :=
  xget S inlX5 hK hX (k := 0) (i := 0) Nat.zero_lt_one rfl rfl 2 (by decide) wFL_RX5_7 rfl rfl hdg kk
theorem gf_RX5_13 (S : CallFix p m c cc nL s args wsL_law RX5) (hK : va_K D vwCl (tysG G) s) (hX : PIC D (MF G ad) MN ad d H) (hdg : decode cc pc = .ok (.getfield 13, 3)) (kk : W p l e R s m args below meth c H locs cells slots Q (F0 m (pc + 3) ls (.ref (ad 3 0) :: rest))) : W p l e R s m args below meth c H locs cells slots Q (F0 m pc ls (.ref (ad 0 0) :: rest)) :=
  xget S inlX5 hK hX (k := 0) (i := 0) Nat.zero_lt_one rfl rfl 3 (by decide) wFL_RX5_13 rfl rfl hdg kk
theorem gf_RX5_16 (S : CallFix p m c cc nL s args wsL_law RX5) (hK : va_K D vwCl (tysG G) s) (hX : PIC D (MF G ad) MN ad d H) (hdg : decode cc pc = .ok (.getfield 16, 3)) (kk : W p l e R s m args below meth c H locs cells slots Q (F0 m (pc + 3) ls (.ref (ad 4 0) :: rest))) : W p l e R s m args below meth c H locs cells slots Q (F0 m pc ls (.ref (ad 0 0) :: rest)) :=
  xget S inlX5 hK hX (k := 0) (i := 0) Nat.zero_lt_one rfl rfl 4 (by decide) wFL_RX5_16 rfl rfl hdg kk
theorem gf_RX5_19 (S : CallFix p m c cc nL s args wsL_law RX5) (hK : va_K D vwCl (tysG G) s) (hX : PIC D (MF G ad) MN ad d H) (hdg : decode cc pc = .ok (.getfield 19, 3)) (kk : W p l e R s m args below meth c H locs cells slots Q (F0 m (pc + 3) ls (.ref (ad 5 0) :: rest))) : W p l e R s m args below meth c H locs cells slots Q (F0 m pc ls (.ref (ad 0 0) :: rest)) :=
  xget S inlX5 hK hX (k := 0) (i := 0) Nat.zero_lt_one rfl rfl 5 (by decide) wFL_RX5_19 rfl rfl hdg kk
theorem gf_RX5_22 (S : CallFix p m c cc nL s args wsL_law RX5) (hK : va_K D vwCl (tysG G) s) (hX : PIC D (MF G ad) MN ad d H) (hdg : decode cc pc = .ok (.getfield 22, 3)) (kk : W p l e R s m args below meth c H locs cells slots Q (F0 m (pc + 3) ls (.ref (ad 6 0) :: rest))) : W p l e R s m args below meth c H locs cells slots Q (F0 m pc ls (.ref (ad 0 0) :: rest)) :=
  xget S inlX5 hK hX (k := 0) (i := 0) Nat.zero_lt_one rfl rfl 6 (by decide) wFL_RX5_22 rfl rfl hdg kk
theorem gf_RX5_25 (S : CallFix p m c cc nL s args wsL_law RX5) (hK : va_K D vwCl (tysG G) s) (hX : PIC D (MF G ad) MN ad d H) (hdg : decode cc pc = .ok (.getfield 25, 3)) (kk : W p l e R s m args below meth c H locs cells slots Q (F0 m (pc + 3) ls (.ref (ad 7 0) :: rest))) : W p l e R s m args below meth c H locs cells slots Q (F0 m pc ls (.ref (ad 0 0) :: rest)) :=
  xget S inlX5 hK hX (k := 0) (i := 0) Nat.zero_lt_one rfl rfl 7 (by decide) wFL_RX5_25 rfl rfl hdg kk
theorem gf_RX5_133 (S : CallFix p m c cc nL s args wsL_law RX5) (hK : va_K D vwCl (tysG G) s) (hX : PIC D (MF G ad) MN ad d H) {v : Int32} (hv : d.1 0 0 8 = v) (hdg : decode cc pc = .ok (.getfield 133, 3)) (kk : W p l e R s m args below meth c H locs cells slots Q (F0 m (pc + 3) ls (.int v :: rest))) : W p l e R s m args below meth c H locs cells slots Q (F0 m pc ls (.ref (ad 0 0) :: rest)) := by
  subst hv
  exact xget S inlX5 hK hX (k := 0) (i := 0) Nat.zero_lt_one rfl rfl 8 (by decide) wFL_RX5_133 rfl rfl hdg kk
theorem pf_RX5_133 (S : CallFix p m c cc nL s args wsL_law RX5) (hK : va_K D vwCl (tysG G) s) (hX : PIC D (MF G ad) MN ad d H) (hS : va_S (adS MN ad) H0 H locs) {x : Int32} (hdg : decode cc pc = .ok (.putfield 133, 3)) (kk : ∀ (H1 : Heap) (locs1 : List Loc), PIC D (MF G ad) MN ad (uv d 0 0 8 x) H1 → va_S (adS MN ad) H0 H1 locs1 → W p l e R s m args below meth c H1 locs1 cells slots Q (F0 m (pc + 3) ls rest)) : W p l e R s m args below meth c H locs cells slots Q (F0 m pc ls (.int x :: .ref (ad 0 0) :: rest)) :=
  xput S inlX5 tyX5 tyX5_ok nmX5 hK hX hS (k := 0) (i := 0) Nat.zero_lt_one (adS_in (k := 0) Nat.zero_lt_one) rfl rfl 8 (by decide) rfl wFL_RX5_133 rfl (ty := .int) rfl rfl rfl (Nat.le_of_ble_eq_true rfl) rfl hdg kk
theorem gf_RX5_28 (S : CallFix p m c cc nL s args wsL_law RX5) (hK : va_K D vwCl (tysG G) s) (hX : PIC D (MF G ad) MN ad d H) (hdg : decode cc pc = .ok (.getfield 28, 3)) (kk : W p l e R s m args below meth c H locs cells slots Q (F0 m (pc + 3) ls (.ref (ad 9 0) :: rest))) : W p l e R s m args below meth c H locs cells slots Q (F0 m pc ls (.ref (ad 0 0) :: rest)) :=
  xget S inlX5 hK hX (k := 0) (i := 0) Nat.zero_lt_one rfl rfl 9 (by decide) wFL_RX5_28 rfl rfl hdg kk
theorem gf_RX5_31 (S : CallFix p m c cc nL s args wsL_law RX5) (hK : va_K D vwCl (tysG G) s) (hX : PIC D (MF G ad) MN ad d H) (hdg : decode cc pc = .ok (.getfield 31, 3)) (kk : W p l e R s m args below meth c H locs cells slots Q (F0 m (pc + 3) ls (.ref (ad 10 0) :: rest))) : W p l e R s m args below meth c H locs cells slots Q (F0 m pc ls (.ref (ad 0 0) :: rest)) :=
  xget S inlX5 hK hX (k := 0) (i := 0) Nat.zero_lt_one rfl rfl 10 (by decide) wFL_RX5_31 rfl rfl hdg kk
theorem gf_RX5_34 (S : CallFix p m c cc nL s args wsL_law RX5) (hK : va_K D vwCl (tysG G) s) (hX : PIC D (MF G ad) MN ad d H) (hdg : decode cc pc = .ok (.getfield 34, 3)) (kk : W p l e R s m args below meth c H locs cells slots Q (F0 m (pc + 3) ls (.ref (ad 11 0) :: rest))) : W p l e R s m args below meth c H locs cells slots Q (F0 m pc ls (.ref (ad 0 0) :: rest)) :=
  xget S inlX5 hK hX (k := 0) (i := 0) Nat.zero_lt_one rfl rfl 11 (by decide) wFL_RX5_34 rfl rfl hdg kk
theorem gf_RX5_84 (S : CallFix p m c cc nL s args wsL_law RX5) (hK : va_K D vwCl (tysG G) s) (hX : PIC D (MF G ad) MN ad d H) {v : Int32} (hv : d.1 0 0 12 = v) (hdg : decode cc pc = .ok (.getfield 84, 3)) (kk : W p l e R s m args below meth c H locs cells slots Q (F0 m (pc + 3) ls (.int v :: rest))) : W p l e R s m args below meth c H locs cells slots Q (F0 m pc ls (.ref (ad 0 0) :: rest)) := by
  subst hv
  exact xget S inlX5 hK hX (k := 0) (i := 0) Nat.zero_lt_one rfl rfl 12 (by decide) wFL_RX5_84 rfl rfl hdg kk
theorem pf_RX5_84 (S : CallFix p m c cc nL s args wsL_law RX5) (hK : va_K D vwCl (tysG G) s) (hX : PIC D (MF G ad) MN ad d H) (hS : va_S (adS MN ad) H0 H locs) {x : Int32} (hdg : decode cc pc = .ok (.putfield 84, 3)) (kk : ∀ (H1 : Heap) (locs1 : List Loc), PIC D (MF G ad) MN ad (uv d 0 0 12 x) H1 → va_S (adS MN ad) H0 H1 locs1 → W p l e R s m args below meth c H1 locs1 cells slots Q (F0 m (pc + 3) ls rest)) : W p l e R s m args below meth c H locs cells slots Q (F0 m pc ls (.int x :: .ref (ad 0 0) :: rest)) :=
  xput S inlX5 tyX5 tyX5_ok nmX5 hK hX hS (k := 0) (i := 0) Nat.zero_lt_one (adS_in (k := 0) Nat.zero_lt_one) rfl rfl 12 (by decide) rfl wFL_RX5_84 rfl (ty := .int) rfl rfl rfl (Nat.le_of_ble_eq_true rfl) rfl hdg kk
theorem gf_RX5_153 (S : CallFix p m c cc nL s args wsL_law RX5) (hK : va_K D vwCl (tysG G) s) (hX : PIC D (MF G ad) MN ad d H) {v : Int32} (hv : d.1 0 0 13 = v) (hdg : decode cc pc = .ok (.getfield 153, 3)) (kk : W p l e R s m args below meth c H locs cells slots Q (F0 m (pc + 3) ls (.int v :: rest))) : W p l e R s m args below meth c H locs cells slots Q (F0 m pc ls (.ref (ad 0 0) :: rest)) := by
  subst hv
  exact xget S inlX5 hK hX (k := 0) (i := 0) Nat.zero_lt_one rfl rfl 13 (by decide) wFL_RX5_153 rfl rfl hdg kk
theorem pf_RX5_153 (S : CallFix p m c cc nL s args wsL_law RX5) (hK : va_K D vwCl (tysG G) s) (hX : PIC D (MF G ad) MN ad d H) (hS : va_S (adS MN ad) H0 H locs) {x : Int32} (hdg : decode cc pc = .ok (.putfield 153, 3)) (kk : ∀ (H1 : Heap) (locs1 : List Loc), PIC D (MF G ad) MN ad (uv d 0 0 13 x) H1 → va_S (adS MN ad) H0 H1 locs1 → W p l e R s m args below meth c H1 locs1 cells slots Q (F0 m (pc + 3) ls rest)) : W p l e R s m args below meth c H locs cells slots Q (F0 m pc ls (.int x :: .ref (ad 0 0) :: rest)) :=
  xput S inlX5 tyX5 tyX5_ok nmX5 hK hX hS (k := 0) (i := 0) Nat.zero_lt_one (adS_in (k := 0) Nat.zero_lt_one) rfl rfl 13 (by decide) rfl wFL_RX5_153 rfl (ty := .int) rfl rfl rfl (Nat.le_of_ble_eq_true rfl) rfl hdg kk
theorem gf_RX5_156 (S : CallFix p m c cc nL s args wsL_law RX5) (hK : va_K D vwCl (tysG G) s) (hX : PIC D (MF G ad) MN ad d H) {v : Int32} (hv : d.1 0 0 14 = v) (hdg : decode cc pc = .ok (.getfield 156, 3)) (kk : W p l e R s m args below meth c H locs cells slots Q (F0 m (pc + 3) ls (.int v :: rest))) : W p l e R s m args below meth c H locs cells slots Q (F0 m pc ls (.ref (ad 0 0) :: rest)) := by
  subst hv
  exact xget S inlX5 hK hX (k := 0) (i := 0) Nat.zero_lt_one rfl rfl 14 (by decide) wFL_RX5_156 rfl rfl hdg kk
theorem pf_RX5_156 (S : CallFix p m c cc nL s args wsL_law RX5) (hK : va_K D vwCl (tysG G) s) (hX : PIC D (MF G ad) MN ad d H) (hS : va_S (adS MN ad) H0 H locs) {x : Int32} (hdg : decode cc pc = .ok (.putfield 156, 3)) (kk : ∀ (H1 : Heap) (locs1 : List Loc), PIC D (MF G ad) MN ad (uv d 0 0 14 x) H1 → va_S (adS MN ad) H0 H1 locs1 → W p l e R s m args below meth c H1 locs1 cells slots Q (F0 m (pc + 3) ls rest)) : W p l e R s m args below meth c H locs cells slots Q (F0 m pc ls (.int x :: .ref (ad 0 0) :: rest)) :=
  xput S inlX5 tyX5 tyX5_ok nmX5 hK hX hS (k := 0) (i := 0) Nat.zero_lt_one (adS_in (k := 0) Nat.zero_lt_one) rfl rfl 14 (by decide) rfl wFL_RX5_156 rfl (ty := .int) rfl rfl rfl (Nat.le_of_ble_eq_true rfl) rfl hdg kk
theorem gf_RX5_159 (S : CallFix p m c cc nL s args wsL_law RX5) (hK : va_K D vwCl (tysG G) s) (hX : PIC D (MF G ad) MN ad d H) {v : Int32} (hv : d.1 0 0 15 = v) (hdg : decode cc pc = .ok (.getfield 159, 3)) (kk : W p l e R s m args below meth c H locs cells slots Q (F0 m (pc + 3) ls (.int v :: rest))) : W p l e R s m args below meth c H locs cells slots Q (F0 m pc ls (.ref (ad 0 0) :: rest)) := by
  subst hv
  exact xget S inlX5 hK hX (k := 0) (i := 0) Nat.zero_lt_one rfl rfl 15 (by decide) wFL_RX5_159 rfl rfl hdg kk
theorem pf_RX5_159 (S : CallFix p m c cc nL s args wsL_law RX5) (hK : va_K D vwCl (tysG G) s) (hX : PIC D (MF G ad) MN ad d H) (hS : va_S (adS MN ad) H0 H locs) {x : Int32} (hdg : decode cc pc = .ok (.putfield 159, 3)) (kk : ∀ (H1 : Heap) (locs1 : List Loc), PIC D (MF G ad) MN ad (uv d 0 0 15 x) H1 → va_S (adS MN ad) H0 H1 locs1 → W p l e R s m args below meth c H1 locs1 cells slots Q (F0 m (pc + 3) ls rest)) : W p l e R s m args below meth c H locs cells slots Q (F0 m pc ls (.int x :: .ref (ad 0 0) :: rest)) :=
  xput S inlX5 tyX5 tyX5_ok nmX5 hK hX hS (k := 0) (i := 0) Nat.zero_lt_one (adS_in (k := 0) Nat.zero_lt_one) rfl rfl 15 (by decide) rfl wFL_RX5_159 rfl (ty := .int) rfl rfl rfl (Nat.le_of_ble_eq_true rfl) rfl hdg kk
theorem gf_RX5_37 (S : CallFix p m c cc nL s args wsL_law RX5) (hK : va_K D vwCl (tysG G) s) (hX : PIC D (MF G ad) MN ad d H) (hdg : decode cc pc = .ok (.getfield 37, 3)) (kk : W p l e R s m args below meth c H locs cells slots Q (F0 m (pc + 3) ls (.ref (ad 16 0) :: rest))) : W p l e R s m args below meth c H locs cells slots Q (F0 m pc ls (.ref (ad 0 0) :: rest)) :=
  xget S inlX5 hK hX (k := 0) (i := 0) Nat.zero_lt_one rfl rfl 16 (by decide) wFL_RX5_37 rfl rfl hdg kk
theorem gf_RX5_176 (S : CallFix p m c cc nL s args wsL_law RX5) (hK : va_K D vwCl (tysG G) s) (hX : PIC D (MF G ad) MN ad d H) {v : Int32} (hv : d.1 0 0 17 = v) (hdg : decode cc pc = .ok (.getfield 176, 3)) (kk : W p l e R s m args below meth c H locs cells slots Q (F0 m (pc + 3) ls (.int v :: rest))) : W p l e R s m args below meth c H locs cells slots Q (F0 m pc ls (.ref (ad 0 0) :: rest)) := by
  subst hv
  exact xget S inlX5 hK hX (k := 0) (i := 0) Nat.zero_lt_one rfl rfl 17 (by decide) wFL_RX5_176 rfl rfl hdg kk
theorem pf_RX5_176 (S : CallFix p m c cc nL s args wsL_law RX5) (hK : va_K D vwCl (tysG G) s) (hX : PIC D (MF G ad) MN ad d H) (hS : va_S (adS MN ad) H0 H locs) {x : Int32} (hdg : decode cc pc = .ok (.putfield 176, 3)) (kk : ∀ (H1 : Heap) (locs1 : List Loc), PIC D (MF G ad) MN ad (uv d 0 0 17 x) H1 → va_S (adS MN ad) H0 H1 locs1 → W p l e R s m args below meth c H1 locs1 cells slots Q (F0 m (pc + 3) ls rest)) : W p l e R s m args below meth c H locs cells slots Q (F0 m pc ls (.int x :: .ref (ad 0 0) :: rest)) :=
  xput S inlX5 tyX5 tyX5_ok nmX5 hK hX hS (k := 0) (i := 0) Nat.zero_lt_one (adS_in (k := 0) Nat.zero_lt_one) rfl rfl 17 (by decide) rfl wFL_RX5_176 rfl (ty := .int) rfl rfl rfl (Nat.le_of_ble_eq_true rfl) rfl hdg kk
theorem gf_RX5_41 (S : CallFix p m c cc nL s args wsL_law RX5) (hK : va_K D vwCl (tysG G) s) (hX : PIC D (MF G ad) MN ad d H) (hdg : decode cc pc = .ok (.getfield 41, 3)) (kk : W p l e R s m args below meth c H locs cells slots Q (F0 m (pc + 3) ls (.ref (ad 18 0) :: rest))) : W p l e R s m args below meth c H locs cells slots Q (F0 m pc ls (.ref (ad 0 0) :: rest)) :=
  xget S inlX5 hK hX (k := 0) (i := 0) Nat.zero_lt_one rfl rfl 18 (by decide) wFL_RX5_41 rfl rfl hdg kk
theorem gf_RX5_44 (S : CallFix p m c cc nL s args wsL_law RX5) (hK : va_K D vwCl (tysG G) s) (hX : PIC D (MF G ad) MN ad d H) (hdg : decode cc pc = .ok (.getfield 44, 3)) (kk : W p l e R s m args below meth c H locs cells slots Q (F0 m (pc + 3) ls (.ref (ad 19 0) :: rest))) : W p l e R s m args below meth c H locs cells slots Q (F0 m pc ls (.ref (ad 0 0) :: rest)) :=
  xget S inlX5 hK hX (k := 0) (i := 0) Nat.zero_lt_one rfl rfl 19 (by decide) wFL_RX5_44 rfl rfl hdg kk
theorem gf_RX5_47 (S : CallFix p m c cc nL s args wsL_law RX5) (hK : va_K D vwCl (tysG G) s) (hX : PIC D (MF G ad) MN ad d H) (hdg : decode cc pc = .ok (.getfield 47, 3)) (kk : W p l e R s m args below meth c H locs cells slots Q (F0 m (pc + 3) ls (.ref (ad 20 0) :: rest))) : W p l e R s m args below meth c H locs cells slots Q (F0 m pc ls (.ref (ad 0 0) :: rest)) :=
  xget S inlX5 hK hX (k := 0) (i := 0) Nat.zero_lt_one rfl rfl 20 (by decide) wFL_RX5_47 rfl rfl hdg kk
theorem gf_RX5_50 (S : CallFix p m c cc nL s args wsL_law RX5) (hK : va_K D vwCl (tysG G) s) (hX : PIC D (MF G ad) MN ad d H) (hdg : decode cc pc = .ok (.getfield 50, 3)) (kk : W p l e R s m args below meth c H locs cells slots Q (F0 m (pc + 3) ls (.ref (ad 21 0) :: rest))) : W p l e R s m args below meth c H locs cells slots Q (F0 m pc ls (.ref (ad 0 0) :: rest)) :=
  xget S inlX5 hK hX (k := 0) (i := 0) Nat.zero_lt_one rfl rfl 21 (by decide) wFL_RX5_50 rfl rfl hdg kk
theorem gf_RX5_53 (S : CallFix p m c cc nL s args wsL_law RX5) (hK : va_K D vwCl (tysG G) s) (hX : PIC D (MF G ad) MN ad d H) (hdg : decode cc pc = .ok (.getfield 53, 3)) (kk : W p l e R s m args below meth c H locs cells slots Q (F0 m (pc + 3) ls (.ref (ad 22 0) :: rest))) : W p l e R s m args below meth c H locs cells slots Q (F0 m pc ls (.ref (ad 0 0) :: rest)) :=
  xget S inlX5 hK hX (k := 0) (i := 0) Nat.zero_lt_one rfl rfl 22 (by decide) wFL_RX5_53 rfl rfl hdg kk
theorem gf_RX5_56 (S : CallFix p m c cc nL s args wsL_law RX5) (hK : va_K D vwCl (tysG G) s) (hX : PIC D (MF G ad) MN ad d H) (hdg : decode cc pc = .ok (.getfield 56, 3)) (kk : W p l e R s m args below meth c H locs cells slots Q (F0 m (pc + 3) ls (.ref (ad 23 0) :: rest))) : W p l e R s m args below meth c H locs cells slots Q (F0 m pc ls (.ref (ad 0 0) :: rest)) :=
  xget S inlX5 hK hX (k := 0) (i := 0) Nat.zero_lt_one rfl rfl 23 (by decide) wFL_RX5_56 rfl rfl hdg kk
theorem gf_RX5_59 (S : CallFix p m c cc nL s args wsL_law RX5) (hK : va_K D vwCl (tysG G) s) (hX : PIC D (MF G ad) MN ad d H) (hdg : decode cc pc = .ok (.getfield 59, 3)) (kk : W p l e R s m args below meth c H locs cells slots Q (F0 m (pc + 3) ls (.ref (ad 24 0) :: rest))) : W p l e R s m args below meth c H locs cells slots Q (F0 m pc ls (.ref (ad 0 0) :: rest)) :=
  xget S inlX5 hK hX (k := 0) (i := 0) Nat.zero_lt_one rfl rfl 24 (by decide) wFL_RX5_59 rfl rfl hdg kk
theorem gf_RX5_62 (S : CallFix p m c cc nL s args wsL_law RX5) (hK : va_K D vwCl (tysG G) s) (hX : PIC D (MF G ad) MN ad d H) (hdg : decode cc pc = .ok (.getfield 62, 3)) (kk : W p l e R s m args below meth c H locs cells slots Q (F0 m (pc + 3) ls (.ref (ad 25 0) :: rest))) : W p l e R s m args below meth c H locs cells slots Q (F0 m pc ls (.ref (ad 0 0) :: rest)) :=
  xget S inlX5 hK hX (k := 0) (i := 0) Nat.zero_lt_one rfl rfl 25 (by decide) wFL_RX5_62 rfl rfl hdg kk
theorem gf_RX5_80 (S : CallFix p m c cc nL s args wsL_law RX5) (hK : va_K D vwCl (tysG G) s) (hX : PIC D (MF G ad) MN ad d H) {v : Int32} (hv : d.1 0 0 26 = v) (hdg : decode cc pc = .ok (.getfield 80, 3)) (kk : W p l e R s m args below meth c H locs cells slots Q (F0 m (pc + 3) ls (.int v :: rest))) : W p l e R s m args below meth c H locs cells slots Q (F0 m pc ls (.ref (ad 0 0) :: rest)) := by
  subst hv
  exact xget S inlX5 hK hX (k := 0) (i := 0) Nat.zero_lt_one rfl rfl 26 (by decide) wFL_RX5_80 rfl rfl hdg kk
theorem pf_RX5_80 (S : CallFix p m c cc nL s args wsL_law RX5) (hK : va_K D vwCl (tysG G) s) (hX : PIC D (MF G ad) MN ad d H) (hS : va_S (adS MN ad) H0 H locs) {x : Int32} (hdg : decode cc pc = .ok (.putfield 80, 3)) (kk : ∀ (H1 : Heap) (locs1 : List Loc), PIC D (MF G ad) MN ad (uv d 0 0 26 x) H1 → va_S (adS MN ad) H0 H1 locs1 → W p l e R s m args below meth c H1 locs1 cells slots Q (F0 m (pc + 3) ls rest)) : W p l e R s m args below meth c H locs cells slots Q (F0 m pc ls (.int x :: .ref (ad 0 0) :: rest)) :=
  xput S inlX5 tyX5 tyX5_ok nmX5 hK hX hS (k := 0) (i := 0) Nat.zero_lt_one (adS_in (k := 0) Nat.zero_lt_one) rfl rfl 26 (by decide) rfl wFL_RX5_80 rfl (ty := .int) rfl rfl rfl (Nat.le_of_ble_eq_true rfl) rfl hdg kk
theorem gf_RX5_65 (S : CallFix p m c cc nL s args wsL_law RX5) (hK : va_K D vwCl (tysG G) s) (hX : PIC D (MF G ad) MN ad d H) (hdg : decode cc pc = .ok (.getfield 65, 3)) (kk : W p l e R s m args below meth c H locs cells slots Q (F0 m (pc + 3) ls (.ref (ad 27 0) :: rest))) : W p l e R s m args below meth c H locs cells slots Q (F0 m pc ls (.ref (ad 0 0) :: rest)) :=
  xget S inlX5 hK hX (k := 0) (i := 0) Nat.zero_lt_one rfl rfl 27 (by decide) wFL_RX5_65 rfl rfl hdg kk
theorem gf_RX5_68 (S : CallFix p m c cc nL s args wsL_law RX5) (hK : va_K D vwCl (tysG G) s) (hX : PIC D (MF G ad) MN ad d H) (hdg : decode cc pc = .ok (.getfield 68, 3)) (kk : W p l e R s m args below meth c H locs cells slots Q (F0 m (pc + 3) ls (.ref (ad 28 0) :: rest))) : W p l e R s m args below meth c H locs cells slots Q (F0 m pc ls (.ref (ad 0 0) :: rest)) :=
  xget S inlX5 hK hX (k := 0) (i := 0) Nat.zero_lt_one rfl rfl 28 (by decide) wFL_RX5_68 rfl rfl hdg kk
theorem gf_RX5_71 (S : CallFix p m c cc nL s args wsL_law RX5) (hK : va_K D vwCl (tysG G) s) (hX : PIC D (MF G ad) MN ad d H) (hdg : decode cc pc = .ok (.getfield 71, 3)) (kk : W p l e R s m args below meth c H locs cells slots Q (F0 m (pc + 3) ls (.ref (ad 29 0) :: rest))) : W p l e R s m args below meth c H locs cells slots Q (F0 m pc ls (.ref (ad 0 0) :: rest)) :=
  xget S inlX5 hK hX (k := 0) (i := 0) Nat.zero_lt_one rfl rfl 29 (by decide) wFL_RX5_71 rfl rfl hdg kk
theorem gf_RX5_74 (S : CallFix p m c cc nL s args wsL_law RX5) (hK : va_K D vwCl (tysG G) s) (hX : PIC D (MF G ad) MN ad d H) (hdg : decode cc pc = .ok (.getfield 74, 3)) (kk : W p l e R s m args below meth c H locs cells slots Q (F0 m (pc + 3) ls (.ref (ad 30 0) :: rest))) : W p l e R s m args below meth c H locs cells slots Q (F0 m pc ls (.ref (ad 0 0) :: rest)) :=
  xget S inlX5 hK hX (k := 0) (i := 0) Nat.zero_lt_one rfl rfl 30 (by decide) wFL_RX5_74 rfl rfl hdg kk
theorem gf_RX5_77 (S : CallFix p m c cc nL s args wsL_law RX5) (hK : va_K D vwCl (tysG G) s) (hX : PIC D (MF G ad) MN ad d H) (hdg : decode cc pc = .ok (.getfield 77, 3)) (kk : W p l e R s m args below meth c H locs cells slots Q (F0 m (pc + 3) ls (.ref (ad 31 0) :: rest))) : W p l e R s m args below meth c H locs cells slots Q (F0 m pc ls (.ref (ad 0 0) :: rest)) :=
  xget S inlX5 hK hX (k := 0) (i := 0) Nat.zero_lt_one rfl rfl 31 (by decide) wFL_RX5_77 rfl rfl hdg kk
theorem gf_RX5_250 (S : CallFix p m c cc nL s args wsL_law RX5) (hK : va_K D vwCl (tysG G) s) (hX : PIC D (MF G ad) MN ad d H) {v : Int32} (hv : d.1 0 0 32 = v) (hdg : decode cc pc = .ok (.getfield 250, 3)) (kk : W p l e R s m args below meth c H locs cells slots Q (F0 m (pc + 3) ls (.int v :: rest))) : W p l e R s m args below meth c H locs cells slots Q (F0 m pc ls (.ref (ad 0 0) :: rest)) := by
  subst hv
  exact xget S inlX5 hK hX (k := 0) (i := 0) Nat.zero_lt_one rfl rfl 32 (by decide) wFL_RX5_250 rfl rfl hdg kk
theorem pf_RX5_250 (S : CallFix p m c cc nL s args wsL_law RX5) (hK : va_K D vwCl (tysG G) s) (hX : PIC D (MF G ad) MN ad d H) (hS : va_S (adS MN ad) H0 H locs) {x : Int32} (hdg : decode cc pc = .ok (.putfield 250, 3)) (kk : ∀ (H1 : Heap) (locs1 : List Loc), PIC D (MF G ad) MN ad (uv d 0 0 32 x) H1 → va_S (adS MN ad) H0 H1 locs1 → W p l e R s m args below meth c H1 locs1 cells slots Q (F0 m (pc + 3) ls rest)) : W p l e R s m args below meth c H locs cells slots Q (F0 m pc ls (.int x :: .ref (ad 0 0) :: rest)) :=
  xput S inlX5 tyX5 tyX5_ok nmX5 hK hX hS (k := 0) (i := 0) Nat.zero_lt_one (adS_in (k := 0) Nat.zero_lt_one) rfl rfl 32 (by decide) rfl wFL_RX5_250 rfl (ty := .int) rfl rfl rfl (Nat.le_of_ble_eq_true rfl) rfl hdg kk
theorem al_X7 (S : CallFix p m c cc nL s args wsL_law own) (hK : va_K D vwCl (tysG G) s) (hX : PIC D (XF G M T ad) (XN M T) ad d H) {i : Nat} (hi : i < 4) {x : Int32} (h0 : 0 ≤ x.toInt) (h1 : x.toInt < 60) {z : Int32} (hv : d.1 7 i (ix x) = z) (hdg : decode cc pc = .ok (.iaload, 1)) (kk : W p l e R s m args below meth c H locs cells slots Q (F0 m (pc + 1) ls (.int z :: rest))) : W p l e R s m args below meth c H locs cells slots Q (F0 m pc ls (.int x :: .ref (ad 7 i) :: rest)) :=
  xiald S hK hX (k := 7) (i := i) hi 0 rfl rfl (vi h0 h1) hv hdg kk
theorem as_X7 (S : CallFix p m c cc nL s args wsL_law own) (hK : va_K D vwCl (tysG G) s) (hX : PIC D (XF G M T ad) (XN M T) ad d H) (hS : va_S (adS (XN M T) ad) H0 H locs) {i : Nat} (hi : i < 4) {x : Int32} {z : Int32} (h0 : 0 ≤ x.toInt) (h1 : x.toInt < 60) (hdg : decode cc pc = .ok (.iastore, 1)) (kk : ∀ (H1 : Heap) (locs1 : List Loc), PIC D (XF G M T ad) (XN M T) ad (uv d 7 i (ix x) z) H1 → va_S (adS (XN M T) ad) H0 H1 locs1 → W p l e R s m args below meth c H1 locs1 cells slots Q (F0 m (pc + 1) ls rest)) : W p l e R s m args below meth c H locs cells slots Q (F0 m pc ls (.int z :: .int x :: .ref (ad 7 i) :: rest)) :=
  xiast S hK hX hS (k := 7) (i := i) hi (adS_in (k := 7) hi) 0 (fun _ => rfl) rfl (vi h0 h1) hdg kk
theorem al_X9 (S : CallFix p m c cc nL s args wsL_law own) (hK : va_K D vwCl (tysG G) s) (hX : PIC D (XF G M T ad) (XN M T) ad d H) {i : Nat} (hi : i < M) {x : Int32} (h0 : 0 ≤ x.toInt) (h1 : x.toInt < 4) {z : Int32} (hv : d.1 9 i (ix x) = z) (hdg : decode cc pc = .ok (.iaload, 1)) (kk : W p l e R s m args below meth c H locs cells slots Q (F0 m (pc + 1) ls (.int z :: rest))) : W p l e R s m args below meth c H locs cells slots Q (F0 m pc ls (.int x :: .ref (ad 9 i) :: rest)) :=
  xiald S hK hX (k := 9) (i := i) hi 0 rfl rfl (vi h0 h1) hv hdg kk
theorem as_X9 (S : CallFix p m c cc nL s args wsL_law own) (hK : va_K D vwCl (tysG G) s) (hX : PIC D (XF G M T ad) (XN M T) ad d H) (hS : va_S (adS (XN M T) ad) H0 H locs) {i : Nat} (hi : i < M) {x : Int32} {z : Int32} (h0 : 0 ≤ x.toInt) (h1 : x.toInt < 4) (hdg : decode cc pc = .ok (.iastore, 1)) (kk : ∀ (H1 : Heap) (locs1 : List Loc), PIC D (XF G M T ad) (XN M T) ad (uv d 9 i (ix x) z) H1 → va_S (adS (XN M T) ad) H0 H1 locs1 → W p l e R s m args below meth c H1 locs1 cells slots Q (F0 m (pc + 1) ls rest)) : W p l e R s m args below meth c H locs cells slots Q (F0 m pc ls (.int z :: .int x :: .ref (ad 9 i) :: rest)) :=
  xiast S hK hX hS (k := 9) (i := i) hi (adS_in (k := 9) hi) 0 (fun _ => rfl) rfl (vi h0 h1) hdg kk
theorem al_X10 (S : CallFix p m c cc nL s args wsL_law own) (hK : va_K D vwCl (tysG G) s) (hX : PIC D (XF G M T ad) (XN M T) ad d H) {i : Nat} (hi : i < M) {x : Int32} (h0 : 0 ≤ x.toInt) (h1 : x.toInt < 12) {z : Int32} (hv : d.1 10 i (ix x) = z) (hdg : decode cc pc = .ok (.iaload, 1)) (kk : W p l e R s m args below meth c H locs cells slots Q (F0 m (pc + 1) ls (.int z :: rest))) : W p l e R s m args below meth c H locs cells slots Q (F0 m pc ls (.int x :: .ref (ad 10 i) :: rest)) :=
  xiald S hK hX (k := 10) (i := i) hi 0 rfl rfl (vi h0 h1) hv hdg kk
theorem as_X10 (S : CallFix p m c cc nL s args wsL_law own) (hK : va_K D vwCl (tysG G) s) (hX : PIC D (XF G M T ad) (XN M T) ad d H) (hS : va_S (adS (XN M T) ad) H0 H locs) {i : Nat} (hi : i < M) {x : Int32} {z : Int32} (h0 : 0 ≤ x.toInt) (h1 : x.toInt < 12) (hdg : decode cc pc = .ok (.iastore, 1)) (kk : ∀ (H1 : Heap) (locs1 : List Loc), PIC D (XF G M T ad) (XN M T) ad (uv d 10 i (ix x) z) H1 → va_S (adS (XN M T) ad) H0 H1 locs1 → W p l e R s m args below meth c H1 locs1 cells slots Q (F0 m (pc + 1) ls rest)) : W p l e R s m args below meth c H locs cells slots Q (F0 m pc ls (.int z :: .int x :: .ref (ad 10 i) :: rest)) :=
  xiast S hK hX hS (k := 10) (i := i) hi (adS_in (k := 10) hi) 0 (fun _ => rfl) rfl (vi h0 h1) hdg kk
theorem al_X11 (S : CallFix p m c cc nL s args wsL_law own) (hK : va_K D vwCl (tysG G) s) (hX : PIC D (XF G M T ad) (XN M T) ad d H) {i : Nat} (hi : i < M) {x : Int32} (h0 : 0 ≤ x.toInt) (h1 : x.toInt < 12) {z : Int32} (hv : d.1 11 i (ix x) = z) (hdg : decode cc pc = .ok (.iaload, 1)) (kk : W p l e R s m args below meth c H locs cells slots Q (F0 m (pc + 1) ls (.int z :: rest))) : W p l e R s m args below meth c H locs cells slots Q (F0 m pc ls (.int x :: .ref (ad 11 i) :: rest)) :=
  xiald S hK hX (k := 11) (i := i) hi 0 rfl rfl (vi h0 h1) hv hdg kk
theorem as_X11 (S : CallFix p m c cc nL s args wsL_law own) (hK : va_K D vwCl (tysG G) s) (hX : PIC D (XF G M T ad) (XN M T) ad d H) (hS : va_S (adS (XN M T) ad) H0 H locs) {i : Nat} (hi : i < M) {x : Int32} {z : Int32} (h0 : 0 ≤ x.toInt) (h1 : x.toInt < 12) (hdg : decode cc pc = .ok (.iastore, 1)) (kk : ∀ (H1 : Heap) (locs1 : List Loc), PIC D (XF G M T ad) (XN M T) ad (uv d 11 i (ix x) z) H1 → va_S (adS (XN M T) ad) H0 H1 locs1 → W p l e R s m args below meth c H1 locs1 cells slots Q (F0 m (pc + 1) ls rest)) : W p l e R s m args below meth c H locs cells slots Q (F0 m pc ls (.int z :: .int x :: .ref (ad 11 i) :: rest)) :=
  xiast S hK hX hS (k := 11) (i := i) hi (adS_in (k := 11) hi) 0 (fun _ => rfl) rfl (vi h0 h1) hdg kk
theorem al_X12 (S : CallFix p m c cc nL s args wsL_law own) (hK : va_K D vwCl (tysG G) s) (hX : PIC D (XF G M T ad) (XN M T) ad d H) {i : Nat} (hi : i < M) {x : Int32} (h0 : 0 ≤ x.toInt) (h1 : x.toInt < 12) {z : Int32} (hv : d.1 12 i (ix x) = z) (hdg : decode cc pc = .ok (.iaload, 1)) (kk : W p l e R s m args below meth c H locs cells slots Q (F0 m (pc + 1) ls (.int z :: rest))) : W p l e R s m args below meth c H locs cells slots Q (F0 m pc ls (.int x :: .ref (ad 12 i) :: rest)) :=
  xiald S hK hX (k := 12) (i := i) hi 0 rfl rfl (vi h0 h1) hv hdg kk
theorem as_X12 (S : CallFix p m c cc nL s args wsL_law own) (hK : va_K D vwCl (tysG G) s) (hX : PIC D (XF G M T ad) (XN M T) ad d H) (hS : va_S (adS (XN M T) ad) H0 H locs) {i : Nat} (hi : i < M) {x : Int32} {z : Int32} (h0 : 0 ≤ x.toInt) (h1 : x.toInt < 12) (hdg : decode cc pc = .ok (.iastore, 1)) (kk : ∀ (H1 : Heap) (locs1 : List Loc), PIC D (XF G M T ad) (XN M T) ad (uv d 12 i (ix x) z) H1 → va_S (adS (XN M T) ad) H0 H1 locs1 → W p l e R s m args below meth c H1 locs1 cells slots Q (F0 m (pc + 1) ls rest)) : W p l e R s m args below meth c H locs cells slots Q (F0 m pc ls (.int z :: .int x :: .ref (ad 12 i) :: rest)) :=
  xiast S hK hX hS (k := 12) (i := i) hi (adS_in (k := 12) hi) 0 (fun _ => rfl) rfl (vi h0 h1) hdg kk
theorem al_X3 (S : CallFix p m c cc nL s args wsL_law own) (hK : va_K D vwCl (tysG G) s) (hX : PIC D (XF G M T ad) (XN M T) ad d H) {x : Int32} (h0 : 0 ≤ x.toInt) (h1 : x.toInt < 12) {z : Int64} (hv : d.2 3 0 (ix x) = z) (hdg : decode cc pc = .ok (.laload, 1)) (kk : W p l e R s m args below meth c H locs cells slots Q (F0 m (pc + 1) ls (.long z :: rest))) : W p l e R s m args below meth c H locs cells slots Q (F0 m pc ls (.int x :: .ref (ad 3 0) :: rest)) :=
  xlald S hK hX (k := 3) (i := 0) Nat.zero_lt_one 1 rfl rfl (vi h0 h1) hv hdg kk
theorem as_X3 (S : CallFix p m c cc nL s args wsL_law own) (hK : va_K D vwCl (tysG G) s) (hX : PIC D (XF G M T ad) (XN M T) ad d H) (hS : va_S (adS (XN M T) ad) H0 H locs) {x : Int32} {z : Int64} (h0 : 0 ≤ x.toInt) (h1 : x.toInt < 12) (hdg : decode cc pc = .ok (.lastore, 1)) (kk : ∀ (H1 : Heap) (locs1 : List Loc), PIC D (XF G M T ad) (XN M T) ad (uw d 3 0 (ix x) z) H1 → va_S (adS (XN M T) ad) H0 H1 locs1 → W p l e R s m args below meth c H1 locs1 cells slots Q (F0 m (pc + 1) ls rest)) : W p l e R s m args below meth c H locs cells slots Q (F0 m pc ls (.long z :: .int x :: .ref (ad 3 0) :: rest)) :=
  xlast S hK hX hS (k := 3) (i := 0) Nat.zero_lt_one (adS_in (k := 3) Nat.zero_lt_one) 1 (fun _ => rfl) rfl (vi h0 h1) hdg kk
theorem al_M2 (S : CallFix p m c cc nL s args wsL_law own) (hK : va_K D vwCl (tysG G) s) (hX : PIC D (MF G ad) MN ad d H) {x : Int32} (h0 : 0 ≤ x.toInt) (h1 : x.toInt < 6) {z : Int32} (hv : d.1 2 0 (ix x) = z) (hdg : decode cc pc = .ok (.iaload, 1)) (kk : W p l e R s m args below meth c H locs cells slots Q (F0 m (pc + 1) ls (.int z :: rest))) : W p l e R s m args below meth c H locs cells slots Q (F0 m pc ls (.int x :: .ref (ad 2 0) :: rest)) :=
  xiald S hK hX (k := 2) (i := 0) Nat.zero_lt_one 0 rfl rfl (vi h0 h1) hv hdg kk
theorem as_M2 (S : CallFix p m c cc nL s args wsL_law own) (hK : va_K D vwCl (tysG G) s) (hX : PIC D (MF G ad) MN ad d H) (hS : va_S (adS MN ad) H0 H locs) {x : Int32} {z : Int32} (h0 : 0 ≤ x.toInt) (h1 : x.toInt < 6) (hdg : decode cc pc = .ok (.iastore, 1)) (kk : ∀ (H1 : Heap) (locs1 : List Loc), PIC D (MF G ad) MN ad (uv d 2 0 (ix x) z) H1 → va_S (adS MN ad) H0 H1 locs1 → W p l e R s m args below meth c H1 locs1 cells slots Q (F0 m (pc + 1) ls rest)) : W p l e R s m args below meth c H locs cells slots Q (F0 m pc ls (.int z :: .int x :: .ref (ad 2 0) :: rest)) :=
  xiast S hK hX hS (k := 2) (i := 0) Nat.zero_lt_one (adS_in (k := 2) Nat.zero_lt_one) 0 (fun _ => rfl) rfl (vi h0 h1) hdg kk
theorem al_M3 (S : CallFix p m c cc nL s args wsL_law own) (hK : va_K D vwCl (tysG G) s) (hX : PIC D (MF G ad) MN ad d H) {x : Int32} (h0 : 0 ≤ x.toInt) (h1 : x.toInt < 6) {z : Int32} (hv : d.1 3 0 (ix x) = z) (hdg : decode cc pc = .ok (.iaload, 1)) (kk : W p l e R s m args below meth c H locs cells slots Q (F0 m (pc + 1) ls (.int z :: rest))) : W p l e R s m args below meth c H locs cells slots Q (F0 m pc ls (.int x :: .ref (ad 3 0) :: rest)) :=
  xiald S hK hX (k := 3) (i := 0) Nat.zero_lt_one 0 rfl rfl (vi h0 h1) hv hdg kk
theorem as_M3 (S : CallFix p m c cc nL s args wsL_law own) (hK : va_K D vwCl (tysG G) s) (hX : PIC D (MF G ad) MN ad d H) (hS : va_S (adS MN ad) H0 H locs) {x : Int32} {z : Int32} (h0 : 0 ≤ x.toInt) (h1 : x.toInt < 6) (hdg : decode cc pc = .ok (.iastore, 1)) (kk : ∀ (H1 : Heap) (locs1 : List Loc), PIC D (MF G ad) MN ad (uv d 3 0 (ix x) z) H1 → va_S (adS MN ad) H0 H1 locs1 → W p l e R s m args below meth c H1 locs1 cells slots Q (F0 m (pc + 1) ls rest)) : W p l e R s m args below meth c H locs cells slots Q (F0 m pc ls (.int z :: .int x :: .ref (ad 3 0) :: rest)) :=
  xiast S hK hX hS (k := 3) (i := 0) Nat.zero_lt_one (adS_in (k := 3) Nat.zero_lt_one) 0 (fun _ => rfl) rfl (vi h0 h1) hdg kk
theorem al_M4 (S : CallFix p m c cc nL s args wsL_law own) (hK : va_K D vwCl (tysG G) s) (hX : PIC D (MF G ad) MN ad d H) {x : Int32} (h0 : 0 ≤ x.toInt) (h1 : x.toInt < 72) {z : Int32} (hv : d.1 4 0 (ix x) = z) (hdg : decode cc pc = .ok (.iaload, 1)) (kk : W p l e R s m args below meth c H locs cells slots Q (F0 m (pc + 1) ls (.int z :: rest))) : W p l e R s m args below meth c H locs cells slots Q (F0 m pc ls (.int x :: .ref (ad 4 0) :: rest)) :=
  xiald S hK hX (k := 4) (i := 0) Nat.zero_lt_one 0 rfl rfl (vi h0 h1) hv hdg kk
theorem as_M4 (S : CallFix p m c cc nL s args wsL_law own) (hK : va_K D vwCl (tysG G) s) (hX : PIC D (MF G ad) MN ad d H) (hS : va_S (adS MN ad) H0 H locs) {x : Int32} {z : Int32} (h0 : 0 ≤ x.toInt) (h1 : x.toInt < 72) (hdg : decode cc pc = .ok (.iastore, 1)) (kk : ∀ (H1 : Heap) (locs1 : List Loc), PIC D (MF G ad) MN ad (uv d 4 0 (ix x) z) H1 → va_S (adS MN ad) H0 H1 locs1 → W p l e R s m args below meth c H1 locs1 cells slots Q (F0 m (pc + 1) ls rest)) : W p l e R s m args below meth c H locs cells slots Q (F0 m pc ls (.int z :: .int x :: .ref (ad 4 0) :: rest)) :=
  xiast S hK hX hS (k := 4) (i := 0) Nat.zero_lt_one (adS_in (k := 4) Nat.zero_lt_one) 0 (fun _ => rfl) rfl (vi h0 h1) hdg kk
theorem al_M5 (S : CallFix p m c cc nL s args wsL_law own) (hK : va_K D vwCl (tysG G) s) (hX : PIC D (MF G ad) MN ad d H) {x : Int32} (h0 : 0 ≤ x.toInt) (h1 : x.toInt < 72) {z : Int32} (hv : d.1 5 0 (ix x) = z) (hdg : decode cc pc = .ok (.iaload, 1)) (kk : W p l e R s m args below meth c H locs cells slots Q (F0 m (pc + 1) ls (.int z :: rest))) : W p l e R s m args below meth c H locs cells slots Q (F0 m pc ls (.int x :: .ref (ad 5 0) :: rest)) :=
  xiald S hK hX (k := 5) (i := 0) Nat.zero_lt_one 0 rfl rfl (vi h0 h1) hv hdg kk
theorem as_M5 (S : CallFix p m c cc nL s args wsL_law own) (hK : va_K D vwCl (tysG G) s) (hX : PIC D (MF G ad) MN ad d H) (hS : va_S (adS MN ad) H0 H locs) {x : Int32} {z : Int32} (h0 : 0 ≤ x.toInt) (h1 : x.toInt < 72) (hdg : decode cc pc = .ok (.iastore, 1)) (kk : ∀ (H1 : Heap) (locs1 : List Loc), PIC D (MF G ad) MN ad (uv d 5 0 (ix x) z) H1 → va_S (adS MN ad) H0 H1 locs1 → W p l e R s m args below meth c H1 locs1 cells slots Q (F0 m (pc + 1) ls rest)) : W p l e R s m args below meth c H locs cells slots Q (F0 m pc ls (.int z :: .int x :: .ref (ad 5 0) :: rest)) :=
  xiast S hK hX hS (k := 5) (i := 0) Nat.zero_lt_one (adS_in (k := 5) Nat.zero_lt_one) 0 (fun _ => rfl) rfl (vi h0 h1) hdg kk
theorem al_M6 (S : CallFix p m c cc nL s args wsL_law own) (hK : va_K D vwCl (tysG G) s) (hX : PIC D (MF G ad) MN ad d H) {x : Int32} (h0 : 0 ≤ x.toInt) (h1 : x.toInt < 72) {z : Int32} (hv : d.1 6 0 (ix x) = z) (hdg : decode cc pc = .ok (.iaload, 1)) (kk : W p l e R s m args below meth c H locs cells slots Q (F0 m (pc + 1) ls (.int z :: rest))) : W p l e R s m args below meth c H locs cells slots Q (F0 m pc ls (.int x :: .ref (ad 6 0) :: rest)) :=
  xiald S hK hX (k := 6) (i := 0) Nat.zero_lt_one 0 rfl rfl (vi h0 h1) hv hdg kk
theorem as_M6 (S : CallFix p m c cc nL s args wsL_law own) (hK : va_K D vwCl (tysG G) s) (hX : PIC D (MF G ad) MN ad d H) (hS : va_S (adS MN ad) H0 H locs) {x : Int32} {z : Int32} (h0 : 0 ≤ x.toInt) (h1 : x.toInt < 72) (hdg : decode cc pc = .ok (.iastore, 1)) (kk : ∀ (H1 : Heap) (locs1 : List Loc), PIC D (MF G ad) MN ad (uv d 6 0 (ix x) z) H1 → va_S (adS MN ad) H0 H1 locs1 → W p l e R s m args below meth c H1 locs1 cells slots Q (F0 m (pc + 1) ls rest)) : W p l e R s m args below meth c H locs cells slots Q (F0 m pc ls (.int z :: .int x :: .ref (ad 6 0) :: rest)) :=
  xiast S hK hX hS (k := 6) (i := 0) Nat.zero_lt_one (adS_in (k := 6) Nat.zero_lt_one) 0 (fun _ => rfl) rfl (vi h0 h1) hdg kk
theorem al_M7 (S : CallFix p m c cc nL s args wsL_law own) (hK : va_K D vwCl (tysG G) s) (hX : PIC D (MF G ad) MN ad d H) {x : Int32} (h0 : 0 ≤ x.toInt) (h1 : x.toInt < 6) {z : Int32} (hv : d.1 7 0 (ix x) = z) (hdg : decode cc pc = .ok (.iaload, 1)) (kk : W p l e R s m args below meth c H locs cells slots Q (F0 m (pc + 1) ls (.int z :: rest))) : W p l e R s m args below meth c H locs cells slots Q (F0 m pc ls (.int x :: .ref (ad 7 0) :: rest)) :=
  xiald S hK hX (k := 7) (i := 0) Nat.zero_lt_one 0 rfl rfl (vi h0 h1) hv hdg kk
theorem as_M7 (S : CallFix p m c cc nL s args wsL_law own) (hK : va_K D vwCl (tysG G) s) (hX : PIC D (MF G ad) MN ad d H) (hS : va_S (adS MN ad) H0 H locs) {x : Int32} {z : Int32} (h0 : 0 ≤ x.toInt) (h1 : x.toInt < 6) (hdg : decode cc pc = .ok (.iastore, 1)) (kk : ∀ (H1 : Heap) (locs1 : List Loc), PIC D (MF G ad) MN ad (uv d 7 0 (ix x) z) H1 → va_S (adS MN ad) H0 H1 locs1 → W p l e R s m args below meth c H1 locs1 cells slots Q (F0 m (pc + 1) ls rest)) : W p l e R s m args below meth c H locs cells slots Q (F0 m pc ls (.int z :: .int x :: .ref (ad 7 0) :: rest)) :=
  xiast S hK hX hS (k := 7) (i := 0) Nat.zero_lt_one (adS_in (k := 7) Nat.zero_lt_one) 0 (fun _ => rfl) rfl (vi h0 h1) hdg kk
theorem al_M9 (S : CallFix p m c cc nL s args wsL_law own) (hK : va_K D vwCl (tysG G) s) (hX : PIC D (MF G ad) MN ad d H) {x : Int32} (h0 : 0 ≤ x.toInt) (h1 : x.toInt < 13) {z : Int32} (hv : d.1 9 0 (ix x) = z) (hdg : decode cc pc = .ok (.iaload, 1)) (kk : W p l e R s m args below meth c H locs cells slots Q (F0 m (pc + 1) ls (.int z :: rest))) : W p l e R s m args below meth c H locs cells slots Q (F0 m pc ls (.int x :: .ref (ad 9 0) :: rest)) :=
  xiald S hK hX (k := 9) (i := 0) Nat.zero_lt_one 0 rfl rfl (vi h0 h1) hv hdg kk
theorem as_M9 (S : CallFix p m c cc nL s args wsL_law own) (hK : va_K D vwCl (tysG G) s) (hX : PIC D (MF G ad) MN ad d H) (hS : va_S (adS MN ad) H0 H locs) {x : Int32} {z : Int32} (h0 : 0 ≤ x.toInt) (h1 : x.toInt < 13) (hdg : decode cc pc = .ok (.iastore, 1)) (kk : ∀ (H1 : Heap) (locs1 : List Loc), PIC D (MF G ad) MN ad (uv d 9 0 (ix x) z) H1 → va_S (adS MN ad) H0 H1 locs1 → W p l e R s m args below meth c H1 locs1 cells slots Q (F0 m (pc + 1) ls rest)) : W p l e R s m args below meth c H locs cells slots Q (F0 m pc ls (.int z :: .int x :: .ref (ad 9 0) :: rest)) :=
  xiast S hK hX hS (k := 9) (i := 0) Nat.zero_lt_one (adS_in (k := 9) Nat.zero_lt_one) 0 (fun _ => rfl) rfl (vi h0 h1) hdg kk
theorem al_M10 (S : CallFix p m c cc nL s args wsL_law own) (hK : va_K D vwCl (tysG G) s) (hX : PIC D (MF G ad) MN ad d H) {x : Int32} (h0 : 0 ≤ x.toInt) (h1 : x.toInt < 13) {z : Int32} (hv : d.1 10 0 (ix x) = z) (hdg : decode cc pc = .ok (.iaload, 1)) (kk : W p l e R s m args below meth c H locs cells slots Q (F0 m (pc + 1) ls (.int z :: rest))) : W p l e R s m args below meth c H locs cells slots Q (F0 m pc ls (.int x :: .ref (ad 10 0) :: rest)) :=
  xiald S hK hX (k := 10) (i := 0) Nat.zero_lt_one 0 rfl rfl (vi h0 h1) hv hdg kk
theorem as_M10 (S : CallFix p m c cc nL s args wsL_law own) (hK : va_K D vwCl (tysG G) s) (hX : PIC D (MF G ad) MN ad d H) (hS : va_S (adS MN ad) H0 H locs) {x : Int32} {z : Int32} (h0 : 0 ≤ x.toInt) (h1 : x.toInt < 13) (hdg : decode cc pc = .ok (.iastore, 1)) (kk : ∀ (H1 : Heap) (locs1 : List Loc), PIC D (MF G ad) MN ad (uv d 10 0 (ix x) z) H1 → va_S (adS MN ad) H0 H1 locs1 → W p l e R s m args below meth c H1 locs1 cells slots Q (F0 m (pc + 1) ls rest)) : W p l e R s m args below meth c H locs cells slots Q (F0 m pc ls (.int z :: .int x :: .ref (ad 10 0) :: rest)) :=
  xiast S hK hX hS (k := 10) (i := 0) Nat.zero_lt_one (adS_in (k := 10) Nat.zero_lt_one) 0 (fun _ => rfl) rfl (vi h0 h1) hdg kk
theorem al_M11 (S : CallFix p m c cc nL s args wsL_law own) (hK : va_K D vwCl (tysG G) s) (hX : PIC D (MF G ad) MN ad d H) {x : Int32} (h0 : 0 ≤ x.toInt) (h1 : x.toInt < 13) {z : Int32} (hv : d.1 11 0 (ix x) = z) (hdg : decode cc pc = .ok (.iaload, 1)) (kk : W p l e R s m args below meth c H locs cells slots Q (F0 m (pc + 1) ls (.int z :: rest))) : W p l e R s m args below meth c H locs cells slots Q (F0 m pc ls (.int x :: .ref (ad 11 0) :: rest)) :=
  xiald S hK hX (k := 11) (i := 0) Nat.zero_lt_one 0 rfl rfl (vi h0 h1) hv hdg kk
theorem as_M11 (S : CallFix p m c cc nL s args wsL_law own) (hK : va_K D vwCl (tysG G) s) (hX : PIC D (MF G ad) MN ad d H) (hS : va_S (adS MN ad) H0 H locs) {x : Int32} {z : Int32} (h0 : 0 ≤ x.toInt) (h1 : x.toInt < 13) (hdg : decode cc pc = .ok (.iastore, 1)) (kk : ∀ (H1 : Heap) (locs1 : List Loc), PIC D (MF G ad) MN ad (uv d 11 0 (ix x) z) H1 → va_S (adS MN ad) H0 H1 locs1 → W p l e R s m args below meth c H1 locs1 cells slots Q (F0 m (pc + 1) ls rest)) : W p l e R s m args below meth c H locs cells slots Q (F0 m pc ls (.int z :: .int x :: .ref (ad 11 0) :: rest)) :=
  xiast S hK hX hS (k := 11) (i := 0) Nat.zero_lt_one (adS_in (k := 11) Nat.zero_lt_one) 0 (fun _ => rfl) rfl (vi h0 h1) hdg kk
theorem al_M16 (S : CallFix p m c cc nL s args wsL_law own) (hK : va_K D vwCl (tysG G) s) (hX : PIC D (MF G ad) MN ad d H) {x : Int32} (h0 : 0 ≤ x.toInt) (h1 : x.toInt < 12) {z : Int64} (hv : d.2 16 0 (ix x) = z) (hdg : decode cc pc = .ok (.laload, 1)) (kk : W p l e R s m args below meth c H locs cells slots Q (F0 m (pc + 1) ls (.long z :: rest))) : W p l e R s m args below meth c H locs cells slots Q (F0 m pc ls (.int x :: .ref (ad 16 0) :: rest)) :=
  xlald S hK hX (k := 16) (i := 0) Nat.zero_lt_one 1 rfl rfl (vi h0 h1) hv hdg kk
theorem as_M16 (S : CallFix p m c cc nL s args wsL_law own) (hK : va_K D vwCl (tysG G) s) (hX : PIC D (MF G ad) MN ad d H) (hS : va_S (adS MN ad) H0 H locs) {x : Int32} {z : Int64} (h0 : 0 ≤ x.toInt) (h1 : x.toInt < 12) (hdg : decode cc pc = .ok (.lastore, 1)) (kk : ∀ (H1 : Heap) (locs1 : List Loc), PIC D (MF G ad) MN ad (uw d 16 0 (ix x) z) H1 → va_S (adS MN ad) H0 H1 locs1 → W p l e R s m args below meth c H1 locs1 cells slots Q (F0 m (pc + 1) ls rest)) : W p l e R s m args below meth c H locs cells slots Q (F0 m pc ls (.long z :: .int x :: .ref (ad 16 0) :: rest)) :=
  xlast S hK hX hS (k := 16) (i := 0) Nat.zero_lt_one (adS_in (k := 16) Nat.zero_lt_one) 1 (fun _ => rfl) rfl (vi h0 h1) hdg kk
theorem al_M18 (S : CallFix p m c cc nL s args wsL_law own) (hK : va_K D vwCl (tysG G) s) (hX : PIC D (MF G ad) MN ad d H) {x : Int32} (h0 : 0 ≤ x.toInt) (h1 : x.toInt < 40) {z : Int32} (hv : d.1 18 0 (ix x) = z) (hdg : decode cc pc = .ok (.iaload, 1)) (kk : W p l e R s m args below meth c H locs cells slots Q (F0 m (pc + 1) ls (.int z :: rest))) : W p l e R s m args below meth c H locs cells slots Q (F0 m pc ls (.int x :: .ref (ad 18 0) :: rest)) :=
  xiald S hK hX (k := 18) (i := 0) Nat.zero_lt_one 0 rfl rfl (vi h0 h1) hv hdg kk
theorem as_M18 (S : CallFix p m c cc nL s args wsL_law own) (hK : va_K D vwCl (tysG G) s) (hX : PIC D (MF G ad) MN ad d H) (hS : va_S (adS MN ad) H0 H locs) {x : Int32} {z : Int32} (h0 : 0 ≤ x.toInt) (h1 : x.toInt < 40) (hdg : decode cc pc = .ok (.iastore, 1)) (kk : ∀ (H1 : Heap) (locs1 : List Loc), PIC D (MF G ad) MN ad (uv d 18 0 (ix x) z) H1 → va_S (adS MN ad) H0 H1 locs1 → W p l e R s m args below meth c H1 locs1 cells slots Q (F0 m (pc + 1) ls rest)) : W p l e R s m args below meth c H locs cells slots Q (F0 m pc ls (.int z :: .int x :: .ref (ad 18 0) :: rest)) :=
  xiast S hK hX hS (k := 18) (i := 0) Nat.zero_lt_one (adS_in (k := 18) Nat.zero_lt_one) 0 (fun _ => rfl) rfl (vi h0 h1) hdg kk
theorem al_M19 (S : CallFix p m c cc nL s args wsL_law own) (hK : va_K D vwCl (tysG G) s) (hX : PIC D (MF G ad) MN ad d H) {x : Int32} (h0 : 0 ≤ x.toInt) (h1 : x.toInt < 40) {z : Int32} (hv : d.1 19 0 (ix x) = z) (hdg : decode cc pc = .ok (.iaload, 1)) (kk : W p l e R s m args below meth c H locs cells slots Q (F0 m (pc + 1) ls (.int z :: rest))) : W p l e R s m args below meth c H locs cells slots Q (F0 m pc ls (.int x :: .ref (ad 19 0) :: rest)) :=
  xiald S hK hX (k := 19) (i := 0) Nat.zero_lt_one 0 rfl rfl (vi h0 h1) hv hdg kk
theorem as_M19 (S : CallFix p m c cc nL s args wsL_law own) (hK : va_K D vwCl (tysG G) s) (hX : PIC D (MF G ad) MN ad d H) (hS : va_S (adS MN ad) H0 H locs) {x : Int32} {z : Int32} (h0 : 0 ≤ x.toInt) (h1 : x.toInt < 40) (hdg : decode cc pc = .ok (.iastore, 1)) (kk : ∀ (H1 : Heap) (locs1 : List Loc), PIC D (MF G ad) MN ad (uv d 19 0 (ix x) z) H1 → va_S (adS MN ad) H0 H1 locs1 → W p l e R s m args below meth c H1 locs1 cells slots Q (F0 m (pc + 1) ls rest)) : W p l e R s m args below meth c H locs cells slots Q (F0 m pc ls (.int z :: .int x :: .ref (ad 19 0) :: rest)) :=
  xiast S hK hX hS (k := 19) (i := 0) Nat.zero_lt_one (adS_in (k := 19) Nat.zero_lt_one) 0 (fun _ => rfl) rfl (vi h0 h1) hdg kk
theorem al_M20 (S : CallFix p m c cc nL s args wsL_law own) (hK : va_K D vwCl (tysG G) s) (hX : PIC D (MF G ad) MN ad d H) {x : Int32} (h0 : 0 ≤ x.toInt) (h1 : x.toInt < 40) {z : Int32} (hv : d.1 20 0 (ix x) = z) (hdg : decode cc pc = .ok (.iaload, 1)) (kk : W p l e R s m args below meth c H locs cells slots Q (F0 m (pc + 1) ls (.int z :: rest))) : W p l e R s m args below meth c H locs cells slots Q (F0 m pc ls (.int x :: .ref (ad 20 0) :: rest)) :=
  xiald S hK hX (k := 20) (i := 0) Nat.zero_lt_one 0 rfl rfl (vi h0 h1) hv hdg kk
theorem as_M20 (S : CallFix p m c cc nL s args wsL_law own) (hK : va_K D vwCl (tysG G) s) (hX : PIC D (MF G ad) MN ad d H) (hS : va_S (adS MN ad) H0 H locs) {x : Int32} {z : Int32} (h0 : 0 ≤ x.toInt) (h1 : x.toInt < 40) (hdg : decode cc pc = .ok (.iastore, 1)) (kk : ∀ (H1 : Heap) (locs1 : List Loc), PIC D (MF G ad) MN ad (uv d 20 0 (ix x) z) H1 → va_S (adS MN ad) H0 H1 locs1 → W p l e R s m args below meth c H1 locs1 cells slots Q (F0 m (pc + 1) ls rest)) : W p l e R s m args below meth c H locs cells slots Q (F0 m pc ls (.int z :: .int x :: .ref (ad 20 0) :: rest)) :=
  xiast S hK hX hS (k := 20) (i := 0) Nat.zero_lt_one (adS_in (k := 20) Nat.zero_lt_one) 0 (fun _ => rfl) rfl (vi h0 h1) hdg kk
theorem al_M21 (S : CallFix p m c cc nL s args wsL_law own) (hK : va_K D vwCl (tysG G) s) (hX : PIC D (MF G ad) MN ad d H) {x : Int32} (h0 : 0 ≤ x.toInt) (h1 : x.toInt < 40) {z : Int32} (hv : d.1 21 0 (ix x) = z) (hdg : decode cc pc = .ok (.iaload, 1)) (kk : W p l e R s m args below meth c H locs cells slots Q (F0 m (pc + 1) ls (.int z :: rest))) : W p l e R s m args below meth c H locs cells slots Q (F0 m pc ls (.int x :: .ref (ad 21 0) :: rest)) :=
  xiald S hK hX (k := 21) (i := 0) Nat.zero_lt_one 0 rfl rfl (vi h0 h1) hv hdg kk
theorem as_M21 (S : CallFix p m c cc nL s args wsL_law own) (hK : va_K D vwCl (tysG G) s) (hX : PIC D (MF G ad) MN ad d H) (hS : va_S (adS MN ad) H0 H locs) {x : Int32} {z : Int32} (h0 : 0 ≤ x.toInt) (h1 : x.toInt < 40) (hdg : decode cc pc = .ok (.iastore, 1)) (kk : ∀ (H1 : Heap) (locs1 : List Loc), PIC D (MF G ad) MN ad (uv d 21 0 (ix x) z) H1 → va_S (adS MN ad) H0 H1 locs1 → W p l e R s m args below meth c H1 locs1 cells slots Q (F0 m (pc + 1) ls rest)) : W p l e R s m args below meth c H locs cells slots Q (F0 m pc ls (.int z :: .int x :: .ref (ad 21 0) :: rest)) :=
  xiast S hK hX hS (k := 21) (i := 0) Nat.zero_lt_one (adS_in (k := 21) Nat.zero_lt_one) 0 (fun _ => rfl) rfl (vi h0 h1) hdg kk
theorem al_M22 (S : CallFix p m c cc nL s args wsL_law own) (hK : va_K D vwCl (tysG G) s) (hX : PIC D (MF G ad) MN ad d H) {x : Int32} (h0 : 0 ≤ x.toInt) (h1 : x.toInt < 40) {z : Int32} (hv : d.1 22 0 (ix x) = z) (hdg : decode cc pc = .ok (.iaload, 1)) (kk : W p l e R s m args below meth c H locs cells slots Q (F0 m (pc + 1) ls (.int z :: rest))) : W p l e R s m args below meth c H locs cells slots Q (F0 m pc ls (.int x :: .ref (ad 22 0) :: rest)) :=
  xiald S hK hX (k := 22) (i := 0) Nat.zero_lt_one 0 rfl rfl (vi h0 h1) hv hdg kk
theorem as_M22 (S : CallFix p m c cc nL s args wsL_law own) (hK : va_K D vwCl (tysG G) s) (hX : PIC D (MF G ad) MN ad d H) (hS : va_S (adS MN ad) H0 H locs) {x : Int32} {z : Int32} (h0 : 0 ≤ x.toInt) (h1 : x.toInt < 40) (hdg : decode cc pc = .ok (.iastore, 1)) (kk : ∀ (H1 : Heap) (locs1 : List Loc), PIC D (MF G ad) MN ad (uv d 22 0 (ix x) z) H1 → va_S (adS MN ad) H0 H1 locs1 → W p l e R s m args below meth c H1 locs1 cells slots Q (F0 m (pc + 1) ls rest)) : W p l e R s m args below meth c H locs cells slots Q (F0 m pc ls (.int z :: .int x :: .ref (ad 22 0) :: rest)) :=
  xiast S hK hX hS (k := 22) (i := 0) Nat.zero_lt_one (adS_in (k := 22) Nat.zero_lt_one) 0 (fun _ => rfl) rfl (vi h0 h1) hdg kk
theorem al_M23 (S : CallFix p m c cc nL s args wsL_law own) (hK : va_K D vwCl (tysG G) s) (hX : PIC D (MF G ad) MN ad d H) {x : Int32} (h0 : 0 ≤ x.toInt) (h1 : x.toInt < 40) {z : Int32} (hv : d.1 23 0 (ix x) = z) (hdg : decode cc pc = .ok (.iaload, 1)) (kk : W p l e R s m args below meth c H locs cells slots Q (F0 m (pc + 1) ls (.int z :: rest))) : W p l e R s m args below meth c H locs cells slots Q (F0 m pc ls (.int x :: .ref (ad 23 0) :: rest)) :=
  xiald S hK hX (k := 23) (i := 0) Nat.zero_lt_one 0 rfl rfl (vi h0 h1) hv hdg kk
theorem as_M23 (S : CallFix p m c cc nL s args wsL_law own) (hK : va_K D vwCl (tysG G) s) (hX : PIC D (MF G ad) MN ad d H) (hS : va_S (adS MN ad) H0 H locs) {x : Int32} {z : Int32} (h0 : 0 ≤ x.toInt) (h1 : x.toInt < 40) (hdg : decode cc pc = .ok (.iastore, 1)) (kk : ∀ (H1 : Heap) (locs1 : List Loc), PIC D (MF G ad) MN ad (uv d 23 0 (ix x) z) H1 → va_S (adS MN ad) H0 H1 locs1 → W p l e R s m args below meth c H1 locs1 cells slots Q (F0 m (pc + 1) ls rest)) : W p l e R s m args below meth c H locs cells slots Q (F0 m pc ls (.int z :: .int x :: .ref (ad 23 0) :: rest)) :=
  xiast S hK hX hS (k := 23) (i := 0) Nat.zero_lt_one (adS_in (k := 23) Nat.zero_lt_one) 0 (fun _ => rfl) rfl (vi h0 h1) hdg kk
theorem al_M24 (S : CallFix p m c cc nL s args wsL_law own) (hK : va_K D vwCl (tysG G) s) (hX : PIC D (MF G ad) MN ad d H) {x : Int32} (h0 : 0 ≤ x.toInt) (h1 : x.toInt < 40) {z : Int32} (hv : d.1 24 0 (ix x) = z) (hdg : decode cc pc = .ok (.iaload, 1)) (kk : W p l e R s m args below meth c H locs cells slots Q (F0 m (pc + 1) ls (.int z :: rest))) : W p l e R s m args below meth c H locs cells slots Q (F0 m pc ls (.int x :: .ref (ad 24 0) :: rest)) :=
  xiald S hK hX (k := 24) (i := 0) Nat.zero_lt_one 0 rfl rfl (vi h0 h1) hv hdg kk
theorem as_M24 (S : CallFix p m c cc nL s args wsL_law own) (hK : va_K D vwCl (tysG G) s) (hX : PIC D (MF G ad) MN ad d H) (hS : va_S (adS MN ad) H0 H locs) {x : Int32} {z : Int32} (h0 : 0 ≤ x.toInt) (h1 : x.toInt < 40) (hdg : decode cc pc = .ok (.iastore, 1)) (kk : ∀ (H1 : Heap) (locs1 : List Loc), PIC D (MF G ad) MN ad (uv d 24 0 (ix x) z) H1 → va_S (adS MN ad) H0 H1 locs1 → W p l e R s m args below meth c H1 locs1 cells slots Q (F0 m (pc + 1) ls rest)) : W p l e R s m args below meth c H locs cells slots Q (F0 m pc ls (.int z :: .int x :: .ref (ad 24 0) :: rest)) :=
  xiast S hK hX hS (k := 24) (i := 0) Nat.zero_lt_one (adS_in (k := 24) Nat.zero_lt_one) 0 (fun _ => rfl) rfl (vi h0 h1) hdg kk
theorem al_M25 (S : CallFix p m c cc nL s args wsL_law own) (hK : va_K D vwCl (tysG G) s) (hX : PIC D (MF G ad) MN ad d H) {x : Int32} (h0 : 0 ≤ x.toInt) (h1 : x.toInt < 40) {z : Int32} (hv : d.1 25 0 (ix x) = z) (hdg : decode cc pc = .ok (.iaload, 1)) (kk : W p l e R s m args below meth c H locs cells slots Q (F0 m (pc + 1) ls (.int z :: rest))) : W p l e R s m args below meth c H locs cells slots Q (F0 m pc ls (.int x :: .ref (ad 25 0) :: rest)) :=
  xiald S hK hX (k := 25) (i := 0) Nat.zero_lt_one 0 rfl rfl (vi h0 h1) hv hdg kk
theorem as_M25 (S : CallFix p m c cc nL s args wsL_law own) (hK : va_K D vwCl (tysG G) s) (hX : PIC D (MF G ad) MN ad d H) (hS : va_S (adS MN ad) H0 H locs) {x : Int32} {z : Int32} (h0 : 0 ≤ x.toInt) (h1 : x.toInt < 40) (hdg : decode cc pc = .ok (.iastore, 1)) (kk : ∀ (H1 : Heap) (locs1 : List Loc), PIC D (MF G ad) MN ad (uv d 25 0 (ix x) z) H1 → va_S (adS MN ad) H0 H1 locs1 → W p l e R s m args below meth c H1 locs1 cells slots Q (F0 m (pc + 1) ls rest)) : W p l e R s m args below meth c H locs cells slots Q (F0 m pc ls (.int z :: .int x :: .ref (ad 25 0) :: rest)) :=
  xiast S hK hX hS (k := 25) (i := 0) Nat.zero_lt_one (adS_in (k := 25) Nat.zero_lt_one) 0 (fun _ => rfl) rfl (vi h0 h1) hdg kk
theorem al_M27 (S : CallFix p m c cc nL s args wsL_law own) (hK : va_K D vwCl (tysG G) s) (hX : PIC D (MF G ad) MN ad d H) {x : Int32} (h0 : 0 ≤ x.toInt) (h1 : x.toInt < 24) {z : Int32} (hv : d.1 27 0 (ix x) = z) (hdg : decode cc pc = .ok (.iaload, 1)) (kk : W p l e R s m args below meth c H locs cells slots Q (F0 m (pc + 1) ls (.int z :: rest))) : W p l e R s m args below meth c H locs cells slots Q (F0 m pc ls (.int x :: .ref (ad 27 0) :: rest)) :=
  xiald S hK hX (k := 27) (i := 0) Nat.zero_lt_one 0 rfl rfl (vi h0 h1) hv hdg kk
theorem as_M27 (S : CallFix p m c cc nL s args wsL_law own) (hK : va_K D vwCl (tysG G) s) (hX : PIC D (MF G ad) MN ad d H) (hS : va_S (adS MN ad) H0 H locs) {x : Int32} {z : Int32} (h0 : 0 ≤ x.toInt) (h1 : x.toInt < 24) (hdg : decode cc pc = .ok (.iastore, 1)) (kk : ∀ (H1 : Heap) (locs1 : List Loc), PIC D (MF G ad) MN ad (uv d 27 0 (ix x) z) H1 → va_S (adS MN ad) H0 H1 locs1 → W p l e R s m args below meth c H1 locs1 cells slots Q (F0 m (pc + 1) ls rest)) : W p l e R s m args below meth c H locs cells slots Q (F0 m pc ls (.int z :: .int x :: .ref (ad 27 0) :: rest)) :=
  xiast S hK hX hS (k := 27) (i := 0) Nat.zero_lt_one (adS_in (k := 27) Nat.zero_lt_one) 0 (fun _ => rfl) rfl (vi h0 h1) hdg kk
theorem al_M28 (S : CallFix p m c cc nL s args wsL_law own) (hK : va_K D vwCl (tysG G) s) (hX : PIC D (MF G ad) MN ad d H) {x : Int32} (h0 : 0 ≤ x.toInt) (h1 : x.toInt < 4) {z : Int32} (hv : d.1 28 0 (ix x) = z) (hdg : decode cc pc = .ok (.iaload, 1)) (kk : W p l e R s m args below meth c H locs cells slots Q (F0 m (pc + 1) ls (.int z :: rest))) : W p l e R s m args below meth c H locs cells slots Q (F0 m pc ls (.int x :: .ref (ad 28 0) :: rest)) :=
  xiald S hK hX (k := 28) (i := 0) Nat.zero_lt_one 0 rfl rfl (vi h0 h1) hv hdg kk
theorem as_M28 (S : CallFix p m c cc nL s args wsL_law own) (hK : va_K D vwCl (tysG G) s) (hX : PIC D (MF G ad) MN ad d H) (hS : va_S (adS MN ad) H0 H locs) {x : Int32} {z : Int32} (h0 : 0 ≤ x.toInt) (h1 : x.toInt < 4) (hdg : decode cc pc = .ok (.iastore, 1)) (kk : ∀ (H1 : Heap) (locs1 : List Loc), PIC D (MF G ad) MN ad (uv d 28 0 (ix x) z) H1 → va_S (adS MN ad) H0 H1 locs1 → W p l e R s m args below meth c H1 locs1 cells slots Q (F0 m (pc + 1) ls rest)) : W p l e R s m args below meth c H locs cells slots Q (F0 m pc ls (.int z :: .int x :: .ref (ad 28 0) :: rest)) :=
  xiast S hK hX hS (k := 28) (i := 0) Nat.zero_lt_one (adS_in (k := 28) Nat.zero_lt_one) 0 (fun _ => rfl) rfl (vi h0 h1) hdg kk
theorem al_M29 (S : CallFix p m c cc nL s args wsL_law own) (hK : va_K D vwCl (tysG G) s) (hX : PIC D (MF G ad) MN ad d H) {x : Int32} (h0 : 0 ≤ x.toInt) (h1 : x.toInt < 4) {z : Int32} (hv : d.1 29 0 (ix x) = z) (hdg : decode cc pc = .ok (.iaload, 1)) (kk : W p l e R s m args below meth c H locs cells slots Q (F0 m (pc + 1) ls (.int z :: rest))) : W p l e R s m args below meth c H locs cells slots Q (F0 m pc ls (.int x :: .ref (ad 29 0) :: rest)) :=
  xiald S hK hX (k := 29) (i := 0) Nat.zero_lt_one 0 rfl rfl (vi h0 h1) hv hdg kk
theorem as_M29 (S : CallFix p m c cc nL s args wsL_law own) (hK : va_K D vwCl (tysG G) s) (hX : PIC D (MF G ad) MN ad d H) (hS : va_S (adS MN ad) H0 H locs) {x : Int32} {z : Int32} (h0 : 0 ≤ x.toInt) (h1 : x.toInt < 4) (hdg : decode cc pc = .ok (.iastore, 1)) (kk : ∀ (H1 : Heap) (locs1 : List Loc), PIC D (MF G ad) MN ad (uv d 29 0 (ix x) z) H1 → va_S (adS MN ad) H0 H1 locs1 → W p l e R s m args below meth c H1 locs1 cells slots Q (F0 m (pc + 1) ls rest)) : W p l e R s m args below meth c H locs cells slots Q (F0 m pc ls (.int z :: .int x :: .ref (ad 29 0) :: rest)) :=
  xiast S hK hX hS (k := 29) (i := 0) Nat.zero_lt_one (adS_in (k := 29) Nat.zero_lt_one) 0 (fun _ => rfl) rfl (vi h0 h1) hdg kk
theorem al_M30 (S : CallFix p m c cc nL s args wsL_law own) (hK : va_K D vwCl (tysG G) s) (hX : PIC D (MF G ad) MN ad d H) {x : Int32} (h0 : 0 ≤ x.toInt) (h1 : x.toInt < 240) {z : Int32} (hv : d.1 30 0 (ix x) = z) (hdg : decode cc pc = .ok (.iaload, 1)) (kk : W p l e R s m args below meth c H locs cells slots Q (F0 m (pc + 1) ls (.int z :: rest))) : W p l e R s m args below meth c H locs cells slots Q (F0 m pc ls (.int x :: .ref (ad 30 0) :: rest)) :=
  xiald S hK hX (k := 30) (i := 0) Nat.zero_lt_one 0 rfl rfl (vi h0 h1) hv hdg kk
theorem as_M30 (S : CallFix p m c cc nL s args wsL_law own) (hK : va_K D vwCl (tysG G) s) (hX : PIC D (MF G ad) MN ad d H) (hS : va_S (adS MN ad) H0 H locs) {x : Int32} {z : Int32} (h0 : 0 ≤ x.toInt) (h1 : x.toInt < 240) (hdg : decode cc pc = .ok (.iastore, 1)) (kk : ∀ (H1 : Heap) (locs1 : List Loc), PIC D (MF G ad) MN ad (uv d 30 0 (ix x) z) H1 → va_S (adS MN ad) H0 H1 locs1 → W p l e R s m args below meth c H1 locs1 cells slots Q (F0 m (pc + 1) ls rest)) : W p l e R s m args below meth c H locs cells slots Q (F0 m pc ls (.int z :: .int x :: .ref (ad 30 0) :: rest)) :=
  xiast S hK hX hS (k := 30) (i := 0) Nat.zero_lt_one (adS_in (k := 30) Nat.zero_lt_one) 0 (fun _ => rfl) rfl (vi h0 h1) hdg kk
theorem al_M31 (S : CallFix p m c cc nL s args wsL_law own) (hK : va_K D vwCl (tysG G) s) (hX : PIC D (MF G ad) MN ad d H) {x : Int32} (h0 : 0 ≤ x.toInt) (h1 : x.toInt < 60) {z : Int32} (hv : d.1 31 0 (ix x) = z) (hdg : decode cc pc = .ok (.iaload, 1)) (kk : W p l e R s m args below meth c H locs cells slots Q (F0 m (pc + 1) ls (.int z :: rest))) : W p l e R s m args below meth c H locs cells slots Q (F0 m pc ls (.int x :: .ref (ad 31 0) :: rest)) :=
  xiald S hK hX (k := 31) (i := 0) Nat.zero_lt_one 0 rfl rfl (vi h0 h1) hv hdg kk
theorem as_M31 (S : CallFix p m c cc nL s args wsL_law own) (hK : va_K D vwCl (tysG G) s) (hX : PIC D (MF G ad) MN ad d H) (hS : va_S (adS MN ad) H0 H locs) {x : Int32} {z : Int32} (h0 : 0 ≤ x.toInt) (h1 : x.toInt < 60) (hdg : decode cc pc = .ok (.iastore, 1)) (kk : ∀ (H1 : Heap) (locs1 : List Loc), PIC D (MF G ad) MN ad (uv d 31 0 (ix x) z) H1 → va_S (adS MN ad) H0 H1 locs1 → W p l e R s m args below meth c H1 locs1 cells slots Q (F0 m (pc + 1) ls rest)) : W p l e R s m args below meth c H locs cells slots Q (F0 m pc ls (.int z :: .int x :: .ref (ad 31 0) :: rest)) :=
  xiast S hK hX hS (k := 31) (i := 0) Nat.zero_lt_one (adS_in (k := 31) Nat.zero_lt_one) 0 (fun _ => rfl) rfl (vi h0 h1) hdg kk
theorem al_X1 (S : CallFix p m c cc nL s args wsL_law own) (hK : va_K D vwCl (tysG G) s) (hX : PIC D (XF G M T ad) (XN M T) ad d H) {x : Int32} (h0 : 0 ≤ x.toInt) (h1 : x.toInt < 6) (h2 : ix x < M) (hdg : decode cc pc = .ok (.aaload, 1)) (kk : W p l e R s m args below meth c H locs cells slots Q (F0 m (pc + 1) ls (.ref (ad 8 (ix x)) :: rest))) : W p l e R s m args below meth c H locs cells slots Q (F0 m pc ls (.int x :: .ref (ad 1 0) :: rest)) :=
  xaald S hK hX (k := 1) (i := 0) Nat.zero_lt_one 2 rfl rfl (vi h0 h1) (if_pos h2) hdg kk
theorem al_X4 (S : CallFix p m c cc nL s args wsL_law own) (hK : va_K D vwCl (tysG G) s) (hX : PIC D (XF G M T ad) (XN M T) ad d H) {x : Int32} (h0 : 0 ≤ x.toInt) (h1 : x.toInt < 40) (h2 : ix x < T) (hdg : decode cc pc = .ok (.aaload, 1)) (kk : W p l e R s m args below meth c H locs cells slots Q (F0 m (pc + 1) ls (.ref (ad 13 (ix x)) :: rest))) : W p l e R s m args below meth c H locs cells slots Q (F0 m pc ls (.int x :: .ref (ad 4 0) :: rest)) :=
  xaald S hK hX (k := 4) (i := 0) Nat.zero_lt_one 4 rfl rfl (vi h0 h1) (if_pos h2) hdg kk
theorem al_X5 (S : CallFix p m c cc nL s args wsL_law own) (hK : va_K D vwCl (tysG G) s) (hX : PIC D (XF G M T ad) (XN M T) ad d H) {x : Int32} (h0 : 0 ≤ x.toInt) (h1 : x.toInt < 4) (h2 : ix x < 4) (hdg : decode cc pc = .ok (.aaload, 1)) (kk : W p l e R s m args below meth c H locs cells slots Q (F0 m (pc + 1) ls (.ref (ad 6 (ix x)) :: rest))) : W p l e R s m args below meth c H locs cells slots Q (F0 m pc ls (.int x :: .ref (ad 5 0) :: rest)) :=
  xaald S hK hX (k := 5) (i := 0) Nat.zero_lt_one 3 rfl rfl (vi h0 h1) (if_pos h2) hdg kk
theorem ix_lt {x : Int32} {k : Nat} (h0 : 0 ≤ x.toInt) (h1 : x.toInt < (k : Int)) : ix x < k := by
  have := ix_int h0
  omega
end PICS
end
section
theorem bm32 {z : Int} (h0 : -2147483648 ≤ z) (h1 : z < 2147483648) : z.bmod (2 ^ 32) = z := Int.bmod_eq_of_le (by omega) (by omega)
theorem bm64 {z : Int} (h0 : -9223372036854775808 ≤ z) (h1 : z < 9223372036854775808) : z.bmod (2 ^ 64) = z := Int.bmod_eq_of_le (by omega) (by omega)
theorem ti_add {x y : Int32} (h0 : -2147483648 ≤ x.toInt + y.toInt) (h1 : x.toInt + y.toInt < 2147483648) : (x + y).toInt = x.toInt + y.toInt := by
  rw [Int32.toInt_add]; exact bm32 h0 h1
theorem ti_sub {x y : Int32} (h0 : -2147483648 ≤ x.toInt - y.toInt) (h1 : x.toInt - y.toInt < 2147483648) : (x - y).toInt = x.toInt - y.toInt := by
  rw [Int32.toInt_sub]; exact bm32 h0 h1
theorem ti_mul {x y : Int32} (h0 : -2147483648 ≤ x.toInt * y.toInt) (h1 : x.toInt * y.toInt < 2147483648) : (x * y).toInt = x.toInt * y.toInt := by
  rw [Int32.toInt_mul]; exact bm32 h0 h1
theorem tl_add {x y : Int64} (h0 : -9223372036854775808 ≤ x.toInt + y.toInt) (h1 : x.toInt + y.toInt < 9223372036854775808) : (x + y).toInt = x.toInt + y.toInt := by
  rw [Int64.toInt_add]; exact bm64 h0 h1
theorem tl_sub {x y : Int64} (h0 : -9223372036854775808 ≤ x.toInt - y.toInt) (h1 : x.toInt - y.toInt < 9223372036854775808) : (x - y).toInt = x.toInt - y.toInt := by
  rw [Int64.toInt_sub]; exact bm64 h0 h1
theorem tl_mul {x y : Int64} (h0 : -9223372036854775808 ≤ x.toInt * y.toInt) (h1 : x.toInt * y.toInt < 9223372036854775808) : (x * y).toInt = x.toInt * y.toInt := by
  rw [Int64.toInt_mul]; exact bm64 h0 h1
theorem ti1 {x : Int32} (h : x.toInt < 2147483647) : (x + 1).toInt = x.toInt + 1 := by
  have h1 : (1 : Int32).toInt = 1 := rfl
  have h2 := x.le_toInt
  rw [ti_add (by omega) (by omega), h1]
theorem tim1 {x : Int32} (h : -2147483648 < x.toInt) : (x + (-1)).toInt = x.toInt - 1 := by
  have h1 : (-1 : Int32).toInt = -1 := rfl
  have h2 := x.toInt_lt
  rw [ti_add (by omega) (by omega), h1]
  omega
theorem ts1 {x : Int32} (h : -2147483648 < x.toInt) : (x - 1).toInt = x.toInt - 1 := by
  have h1 : (1 : Int32).toInt = 1 := rfl
  have h2 := x.toInt_lt
  rw [ti_sub (by omega) (by omega), h1]
theorem nz2 {y : Int64} (h : 0 < y.toInt) : ¬ (2 * y = 0) := by
  intro q
  have q2 := congrArg Int64.toInt q
  rw [Int64.toInt_mul, Int64.toInt_zero, show ((2 : Int64).toInt) = 2 from rfl] at q2
  have h1 := y.toInt_lt
  rw [Int.bmod_def] at q2
  split at q2 <;> omega
theorem t64 (x : Int32) : x.toInt64.toInt = x.toInt := Int32.toInt_toInt64 x
theorem ds_X4_init : yX4_init.cls = RX4 ∧ yX4_init.cls ≠ "java/lang/invoke/MethodHandle" ∧ yX4_init.cls ≠ "java/lang/invoke/VarHandle" ∧ (parseMethodDescriptor yX4_init.desc).map (fun d => d.parameters.length) = some 0 := by decide +kernel
theorem ds_X1_init : yX1_init.cls = RX1 ∧ yX1_init.cls ≠ "java/lang/invoke/MethodHandle" ∧ yX1_init.cls ≠ "java/lang/invoke/VarHandle" ∧ (parseMethodDescriptor yX1_init.desc).map (fun d => d.parameters.length) = some 0 := by decide +kernel
theorem ds_X2_init : yX2_init.cls = RX2 ∧ yX2_init.cls ≠ "java/lang/invoke/MethodHandle" ∧ yX2_init.cls ≠ "java/lang/invoke/VarHandle" ∧ (parseMethodDescriptor yX2_init.desc).map (fun d => d.parameters.length) = some 0 := by decide +kernel
theorem ds_X4_meter : yX4_meter.cls = RX4 ∧ yX4_meter.cls ≠ "java/lang/invoke/MethodHandle" ∧ yX4_meter.cls ≠ "java/lang/invoke/VarHandle" ∧ (parseMethodDescriptor yX4_meter.desc).map (fun d => d.parameters.length) = some 1 := by decide +kernel
theorem ds_X4_isWithin : yX4_isWithin.cls = RX4 ∧ yX4_isWithin.cls ≠ "java/lang/invoke/MethodHandle" ∧ yX4_isWithin.cls ≠ "java/lang/invoke/VarHandle" ∧ (parseMethodDescriptor yX4_isWithin.desc).map (fun d => d.parameters.length) = some 3 := by decide +kernel
theorem ds_X0_init : yX0_init.cls = RX0 ∧ yX0_init.cls ≠ "java/lang/invoke/MethodHandle" ∧ yX0_init.cls ≠ "java/lang/invoke/VarHandle" ∧ (parseMethodDescriptor yX0_init.desc).map (fun d => d.parameters.length) = some 1 := by decide +kernel
theorem ds_X4_factor : yX4_factor.cls = RX4 ∧ yX4_factor.cls ≠ "java/lang/invoke/MethodHandle" ∧ yX4_factor.cls ≠ "java/lang/invoke/VarHandle" ∧ (parseMethodDescriptor yX4_factor.desc).map (fun d => d.parameters.length) = some 4 := by decide +kernel
theorem ds_X4_isMeter : yX4_isMeter.cls = RX4 ∧ yX4_isMeter.cls ≠ "java/lang/invoke/MethodHandle" ∧ yX4_isMeter.cls ≠ "java/lang/invoke/VarHandle" ∧ (parseMethodDescriptor yX4_isMeter.desc).map (fun d => d.parameters.length) = some 1 := by decide +kernel
theorem ds_X4_isFlow : yX4_isFlow.cls = RX4 ∧ yX4_isFlow.cls ≠ "java/lang/invoke/MethodHandle" ∧ yX4_isFlow.cls ≠ "java/lang/invoke/VarHandle" ∧ (parseMethodDescriptor yX4_isFlow.desc).map (fun d => d.parameters.length) = some 1 := by decide +kernel
theorem ds_X4_isDay : yX4_isDay.cls = RX4 ∧ yX4_isDay.cls ≠ "java/lang/invoke/MethodHandle" ∧ yX4_isDay.cls ≠ "java/lang/invoke/VarHandle" ∧ (parseMethodDescriptor yX4_isDay.desc).map (fun d => d.parameters.length) = some 1 := by decide +kernel
theorem ds_X0_isFull : yX0_isFull.cls = RX0 ∧ yX0_isFull.cls ≠ "java/lang/invoke/MethodHandle" ∧ yX0_isFull.cls ≠ "java/lang/invoke/VarHandle" ∧ (parseMethodDescriptor yX0_isFull.desc).map (fun d => d.parameters.length) = some 0 := by decide +kernel
theorem ds_X0_takeFactor : yX0_takeFactor.cls = RX0 ∧ yX0_takeFactor.cls ≠ "java/lang/invoke/MethodHandle" ∧ yX0_takeFactor.cls ≠ "java/lang/invoke/VarHandle" ∧ (parseMethodDescriptor yX0_takeFactor.desc).map (fun d => d.parameters.length) = some 3 := by decide +kernel
theorem ds_X0_standsBehind : yX0_standsBehind.cls = RX0 ∧ yX0_standsBehind.cls ≠ "java/lang/invoke/MethodHandle" ∧ yX0_standsBehind.cls ≠ "java/lang/invoke/VarHandle" ∧ (parseMethodDescriptor yX0_standsBehind.desc).map (fun d => d.parameters.length) = some 3 := by decide +kernel
theorem ds_X4_at : yX4_at.cls = RX4 ∧ yX4_at.cls ≠ "java/lang/invoke/MethodHandle" ∧ yX4_at.cls ≠ "java/lang/invoke/VarHandle" ∧ (parseMethodDescriptor yX4_at.desc).map (fun d => d.parameters.length) = some 3 := by decide +kernel
theorem ds_X0_factorAt : yX0_factorAt.cls = RX0 ∧ yX0_factorAt.cls ≠ "java/lang/invoke/MethodHandle" ∧ yX0_factorAt.cls ≠ "java/lang/invoke/VarHandle" ∧ (parseMethodDescriptor yX0_factorAt.desc).map (fun d => d.parameters.length) = some 2 := by decide +kernel
theorem ds_X0_isOnCurve : yX0_isOnCurve.cls = RX0 ∧ yX0_isOnCurve.cls ≠ "java/lang/invoke/MethodHandle" ∧ yX0_isOnCurve.cls ≠ "java/lang/invoke/VarHandle" ∧ (parseMethodDescriptor yX0_isOnCurve.desc).map (fun d => d.parameters.length) = some 2 := by decide +kernel
theorem ds_X0_between : yX0_between.cls = RX0 ∧ yX0_between.cls ≠ "java/lang/invoke/MethodHandle" ∧ yX0_between.cls ≠ "java/lang/invoke/VarHandle" ∧ (parseMethodDescriptor yX0_between.desc).map (fun d => d.parameters.length) = some 3 := by decide +kernel
theorem ds_X4_points : yX4_points.cls = RX4 ∧ yX4_points.cls ≠ "java/lang/invoke/MethodHandle" ∧ yX4_points.cls ≠ "java/lang/invoke/VarHandle" ∧ (parseMethodDescriptor yX4_points.desc).map (fun d => d.parameters.length) = some 2 := by decide +kernel
theorem ds_X0_curveSize : yX0_curveSize.cls = RX0 ∧ yX0_curveSize.cls ≠ "java/lang/invoke/MethodHandle" ∧ yX0_curveSize.cls ≠ "java/lang/invoke/VarHandle" ∧ (parseMethodDescriptor yX0_curveSize.desc).map (fun d => d.parameters.length) = some 1 := by decide +kernel
theorem ds_X4_point : yX4_point.cls = RX4 ∧ yX4_point.cls ≠ "java/lang/invoke/MethodHandle" ∧ yX4_point.cls ≠ "java/lang/invoke/VarHandle" ∧ (parseMethodDescriptor yX4_point.desc).map (fun d => d.parameters.length) = some 4 := by decide +kernel
theorem ds_X0_curvePlace : yX0_curvePlace.cls = RX0 ∧ yX0_curvePlace.cls ≠ "java/lang/invoke/MethodHandle" ∧ yX0_curvePlace.cls ≠ "java/lang/invoke/VarHandle" ∧ (parseMethodDescriptor yX0_curvePlace.desc).map (fun d => d.parameters.length) = some 2 := by decide +kernel
theorem ds_X4_proof : yX4_proof.cls = RX4 ∧ yX4_proof.cls ≠ "java/lang/invoke/MethodHandle" ∧ yX4_proof.cls ≠ "java/lang/invoke/VarHandle" ∧ (parseMethodDescriptor yX4_proof.desc).map (fun d => d.parameters.length) = some 3 := by decide +kernel
theorem ds_X1_begin : yX1_begin.cls = RX1 ∧ yX1_begin.cls ≠ "java/lang/invoke/MethodHandle" ∧ yX1_begin.cls ≠ "java/lang/invoke/VarHandle" ∧ (parseMethodDescriptor yX1_begin.desc).map (fun d => d.parameters.length) = some 3 := by decide +kernel
theorem ds_X4_run : yX4_run.cls = RX4 ∧ yX4_run.cls ≠ "java/lang/invoke/MethodHandle" ∧ yX4_run.cls ≠ "java/lang/invoke/VarHandle" ∧ (parseMethodDescriptor yX4_run.desc).map (fun d => d.parameters.length) = some 3 := by decide +kernel
theorem ds_X4_proving : yX4_proving.cls = RX4 ∧ yX4_proving.cls ≠ "java/lang/invoke/MethodHandle" ∧ yX4_proving.cls ≠ "java/lang/invoke/VarHandle" ∧ (parseMethodDescriptor yX4_proving.desc).map (fun d => d.parameters.length) = some 1 := by decide +kernel
theorem ds_X1_isGood : yX1_isGood.cls = RX1 ∧ yX1_isGood.cls ≠ "java/lang/invoke/MethodHandle" ∧ yX1_isGood.cls ≠ "java/lang/invoke/VarHandle" ∧ (parseMethodDescriptor yX1_isGood.desc).map (fun d => d.parameters.length) = some 0 := by decide +kernel
theorem ds_J9_min_f86c9 : yJ9_min_f86c9.cls = RJ9 ∧ yJ9_min_f86c9.cls ≠ "java/lang/invoke/MethodHandle" ∧ yJ9_min_f86c9.cls ≠ "java/lang/invoke/VarHandle" ∧ (parseMethodDescriptor yJ9_min_f86c9.desc).map (fun d => d.parameters.length) = some 2 := by decide +kernel
theorem ds_J9_max_f86c9 : yJ9_max_f86c9.cls = RJ9 ∧ yJ9_max_f86c9.cls ≠ "java/lang/invoke/MethodHandle" ∧ yJ9_max_f86c9.cls ≠ "java/lang/invoke/VarHandle" ∧ (parseMethodDescriptor yJ9_max_f86c9.desc).map (fun d => d.parameters.length) = some 2 := by decide +kernel
theorem ds_X4_accept : yX4_accept.cls = RX4 ∧ yX4_accept.cls ≠ "java/lang/invoke/MethodHandle" ∧ yX4_accept.cls ≠ "java/lang/invoke/VarHandle" ∧ (parseMethodDescriptor yX4_accept.desc).map (fun d => d.parameters.length) = some 1 := by decide +kernel
theorem ds_X1_factorOf : yX1_factorOf.cls = RX1 ∧ yX1_factorOf.cls ≠ "java/lang/invoke/MethodHandle" ∧ yX1_factorOf.cls ≠ "java/lang/invoke/VarHandle" ∧ (parseMethodDescriptor yX1_factorOf.desc).map (fun d => d.parameters.length) = some 1 := by decide +kernel
theorem ds_J9_max_7cf53 : yJ9_max_7cf53.cls = RJ9 ∧ yJ9_max_7cf53.cls ≠ "java/lang/invoke/MethodHandle" ∧ yJ9_max_7cf53.cls ≠ "java/lang/invoke/VarHandle" ∧ (parseMethodDescriptor yJ9_max_7cf53.desc).map (fun d => d.parameters.length) = some 2 := by decide +kernel
theorem ds_X4_rounded : yX4_rounded.cls = RX4 ∧ yX4_rounded.cls ≠ "java/lang/invoke/MethodHandle" ∧ yX4_rounded.cls ≠ "java/lang/invoke/VarHandle" ∧ (parseMethodDescriptor yX4_rounded.desc).map (fun d => d.parameters.length) = some 2 := by decide +kernel
theorem ds_X4_ticket : yX4_ticket.cls = RX4 ∧ yX4_ticket.cls ≠ "java/lang/invoke/MethodHandle" ∧ yX4_ticket.cls ≠ "java/lang/invoke/VarHandle" ∧ (parseMethodDescriptor yX4_ticket.desc).map (fun d => d.parameters.length) = some 4 := by decide +kernel
theorem ds_X4_isShut : yX4_isShut.cls = RX4 ∧ yX4_isShut.cls ≠ "java/lang/invoke/MethodHandle" ∧ yX4_isShut.cls ≠ "java/lang/invoke/VarHandle" ∧ (parseMethodDescriptor yX4_isShut.desc).map (fun d => d.parameters.length) = some 1 := by decide +kernel
theorem ds_X3_init : yX3_init.cls = RX3 ∧ yX3_init.cls ≠ "java/lang/invoke/MethodHandle" ∧ yX3_init.cls ≠ "java/lang/invoke/VarHandle" ∧ (parseMethodDescriptor yX3_init.desc).map (fun d => d.parameters.length) = some 5 := by decide +kernel
theorem ds_X4_keep : yX4_keep.cls = RX4 ∧ yX4_keep.cls ≠ "java/lang/invoke/MethodHandle" ∧ yX4_keep.cls ≠ "java/lang/invoke/VarHandle" ∧ (parseMethodDescriptor yX4_keep.desc).map (fun d => d.parameters.length) = some 1 := by decide +kernel
theorem ds_X4_right : yX4_right.cls = RX4 ∧ yX4_right.cls ≠ "java/lang/invoke/MethodHandle" ∧ yX4_right.cls ≠ "java/lang/invoke/VarHandle" ∧ (parseMethodDescriptor yX4_right.desc).map (fun d => d.parameters.length) = some 2 := by decide +kernel
theorem ds_X4_isTicket : yX4_isTicket.cls = RX4 ∧ yX4_isTicket.cls ≠ "java/lang/invoke/MethodHandle" ∧ yX4_isTicket.cls ≠ "java/lang/invoke/VarHandle" ∧ (parseMethodDescriptor yX4_isTicket.desc).map (fun d => d.parameters.length) = some 1 := by decide +kernel
theorem ds_X3_isReplaced : yX3_isReplaced.cls = RX3 ∧ yX3_isReplaced.cls ≠ "java/lang/invoke/MethodHandle" ∧ yX3_isReplaced.cls ≠ "java/lang/invoke/VarHandle" ∧ (parseMethodDescriptor yX3_isReplaced.desc).map (fun d => d.parameters.length) = some 0 := by decide +kernel
theorem ds_X4_replace : yX4_replace.cls = RX4 ∧ yX4_replace.cls ≠ "java/lang/invoke/MethodHandle" ∧ yX4_replace.cls ≠ "java/lang/invoke/VarHandle" ∧ (parseMethodDescriptor yX4_replace.desc).map (fun d => d.parameters.length) = some 3 := by decide +kernel
theorem ds_X4_factorNow : yX4_factorNow.cls = RX4 ∧ yX4_factorNow.cls ≠ "java/lang/invoke/MethodHandle" ∧ yX4_factorNow.cls ≠ "java/lang/invoke/VarHandle" ∧ (parseMethodDescriptor yX4_factorNow.desc).map (fun d => d.parameters.length) = some 1 := by decide +kernel
theorem ds_X4_remake : yX4_remake.cls = RX4 ∧ yX4_remake.cls ≠ "java/lang/invoke/MethodHandle" ∧ yX4_remake.cls ≠ "java/lang/invoke/VarHandle" ∧ (parseMethodDescriptor yX4_remake.desc).map (fun d => d.parameters.length) = some 3 := by decide +kernel
theorem ds_X4_areDays : yX4_areDays.cls = RX4 ∧ yX4_areDays.cls ≠ "java/lang/invoke/MethodHandle" ∧ yX4_areDays.cls ≠ "java/lang/invoke/VarHandle" ∧ (parseMethodDescriptor yX4_areDays.desc).map (fun d => d.parameters.length) = some 2 := by decide +kernel
theorem ds_X4_isToRemake : yX4_isToRemake.cls = RX4 ∧ yX4_isToRemake.cls ≠ "java/lang/invoke/MethodHandle" ∧ yX4_isToRemake.cls ≠ "java/lang/invoke/VarHandle" ∧ (parseMethodDescriptor yX4_isToRemake.desc).map (fun d => d.parameters.length) = some 4 := by decide +kernel
theorem ds_X3_counts : yX3_counts.cls = RX3 ∧ yX3_counts.cls ≠ "java/lang/invoke/MethodHandle" ∧ yX3_counts.cls ≠ "java/lang/invoke/VarHandle" ∧ (parseMethodDescriptor yX3_counts.desc).map (fun d => d.parameters.length) = some 3 := by decide +kernel
theorem ds_X4_ticketed : yX4_ticketed.cls = RX4 ∧ yX4_ticketed.cls ≠ "java/lang/invoke/MethodHandle" ∧ yX4_ticketed.cls ≠ "java/lang/invoke/VarHandle" ∧ (parseMethodDescriptor yX4_ticketed.desc).map (fun d => d.parameters.length) = some 2 := by decide +kernel
theorem ds_X4_volume : yX4_volume.cls = RX4 ∧ yX4_volume.cls ≠ "java/lang/invoke/MethodHandle" ∧ yX4_volume.cls ≠ "java/lang/invoke/VarHandle" ∧ (parseMethodDescriptor yX4_volume.desc).map (fun d => d.parameters.length) = some 1 := by decide +kernel
theorem ds_X4_volumeOf : yX4_volumeOf.cls = RX4 ∧ yX4_volumeOf.cls ≠ "java/lang/invoke/MethodHandle" ∧ yX4_volumeOf.cls ≠ "java/lang/invoke/VarHandle" ∧ (parseMethodDescriptor yX4_volumeOf.desc).map (fun d => d.parameters.length) = some 1 := by decide +kernel
theorem ds_X4_sum : yX4_sum.cls = RX4 ∧ yX4_sum.cls ≠ "java/lang/invoke/MethodHandle" ∧ yX4_sum.cls ≠ "java/lang/invoke/VarHandle" ∧ (parseMethodDescriptor yX4_sum.desc).map (fun d => d.parameters.length) = some 3 := by decide +kernel
theorem ds_X4_sumOf : yX4_sumOf.cls = RX4 ∧ yX4_sumOf.cls ≠ "java/lang/invoke/MethodHandle" ∧ yX4_sumOf.cls ≠ "java/lang/invoke/VarHandle" ∧ (parseMethodDescriptor yX4_sumOf.desc).map (fun d => d.parameters.length) = some 3 := by decide +kernel
theorem ds_X4_shut : yX4_shut.cls = RX4 ∧ yX4_shut.cls ≠ "java/lang/invoke/MethodHandle" ∧ yX4_shut.cls ≠ "java/lang/invoke/VarHandle" ∧ (parseMethodDescriptor yX4_shut.desc).map (fun d => d.parameters.length) = some 1 := by decide +kernel
theorem ds_X4_line : yX4_line.cls = RX4 ∧ yX4_line.cls ≠ "java/lang/invoke/MethodHandle" ∧ yX4_line.cls ≠ "java/lang/invoke/VarHandle" ∧ (parseMethodDescriptor yX4_line.desc).map (fun d => d.parameters.length) = some 3 := by decide +kernel
theorem ds_X4_isLine : yX4_isLine.cls = RX4 ∧ yX4_isLine.cls ≠ "java/lang/invoke/MethodHandle" ∧ yX4_isLine.cls ≠ "java/lang/invoke/VarHandle" ∧ (parseMethodDescriptor yX4_isLine.desc).map (fun d => d.parameters.length) = some 1 := by decide +kernel
theorem ds_X4_lined : yX4_lined.cls = RX4 ∧ yX4_lined.cls ≠ "java/lang/invoke/MethodHandle" ∧ yX4_lined.cls ≠ "java/lang/invoke/VarHandle" ∧ (parseMethodDescriptor yX4_lined.desc).map (fun d => d.parameters.length) = some 2 := by decide +kernel
theorem ds_X4_end : yX4_end.cls = RX4 ∧ yX4_end.cls ≠ "java/lang/invoke/MethodHandle" ∧ yX4_end.cls ≠ "java/lang/invoke/VarHandle" ∧ (parseMethodDescriptor yX4_end.desc).map (fun d => d.parameters.length) = some 2 := by decide +kernel
theorem ds_X4_balance : yX4_balance.cls = RX4 ∧ yX4_balance.cls ≠ "java/lang/invoke/MethodHandle" ∧ yX4_balance.cls ≠ "java/lang/invoke/VarHandle" ∧ (parseMethodDescriptor yX4_balance.desc).map (fun d => d.parameters.length) = some 4 := by decide +kernel
theorem ds_X4_imbalanceOf : yX4_imbalanceOf.cls = RX4 ∧ yX4_imbalanceOf.cls ≠ "java/lang/invoke/MethodHandle" ∧ yX4_imbalanceOf.cls ≠ "java/lang/invoke/VarHandle" ∧ (parseMethodDescriptor yX4_imbalanceOf.desc).map (fun d => d.parameters.length) = some 3 := by decide +kernel
theorem ds_X4_endsOf : yX4_endsOf.cls = RX4 ∧ yX4_endsOf.cls ≠ "java/lang/invoke/MethodHandle" ∧ yX4_endsOf.cls ≠ "java/lang/invoke/VarHandle" ∧ (parseMethodDescriptor yX4_endsOf.desc).map (fun d => d.parameters.length) = some 3 := by decide +kernel
theorem ds_X4_beyond : yX4_beyond.cls = RX4 ∧ yX4_beyond.cls ≠ "java/lang/invoke/MethodHandle" ∧ yX4_beyond.cls ≠ "java/lang/invoke/VarHandle" ∧ (parseMethodDescriptor yX4_beyond.desc).map (fun d => d.parameters.length) = some 2 := by decide +kernel
theorem ds_X4_linesBeyond : yX4_linesBeyond.cls = RX4 ∧ yX4_linesBeyond.cls ≠ "java/lang/invoke/MethodHandle" ∧ yX4_linesBeyond.cls ≠ "java/lang/invoke/VarHandle" ∧ (parseMethodDescriptor yX4_linesBeyond.desc).map (fun d => d.parameters.length) = some 2 := by decide +kernel
theorem ds_J9_abs_067f4 : yJ9_abs_067f4.cls = RJ9 ∧ yJ9_abs_067f4.cls ≠ "java/lang/invoke/MethodHandle" ∧ yJ9_abs_067f4.cls ≠ "java/lang/invoke/VarHandle" ∧ (parseMethodDescriptor yJ9_abs_067f4.desc).map (fun d => d.parameters.length) = some 1 := by decide +kernel
theorem ds_X4_explains : yX4_explains.cls = RX4 ∧ yX4_explains.cls ≠ "java/lang/invoke/MethodHandle" ∧ yX4_explains.cls ≠ "java/lang/invoke/VarHandle" ∧ (parseMethodDescriptor yX4_explains.desc).map (fun d => d.parameters.length) = some 3 := by decide +kernel
theorem ds_X4_sheet : yX4_sheet.cls = RX4 ∧ yX4_sheet.cls ≠ "java/lang/invoke/MethodHandle" ∧ yX4_sheet.cls ≠ "java/lang/invoke/VarHandle" ∧ (parseMethodDescriptor yX4_sheet.desc).map (fun d => d.parameters.length) = some 3 := by decide +kernel
theorem ds_X4_isSheet : yX4_isSheet.cls = RX4 ∧ yX4_isSheet.cls ≠ "java/lang/invoke/MethodHandle" ∧ yX4_isSheet.cls ≠ "java/lang/invoke/VarHandle" ∧ (parseMethodDescriptor yX4_isSheet.desc).map (fun d => d.parameters.length) = some 1 := by decide +kernel
theorem ds_X4_isLane : yX4_isLane.cls = RX4 ∧ yX4_isLane.cls ≠ "java/lang/invoke/MethodHandle" ∧ yX4_isLane.cls ≠ "java/lang/invoke/VarHandle" ∧ (parseMethodDescriptor yX4_isLane.desc).map (fun d => d.parameters.length) = some 1 := by decide +kernel
theorem ds_X4_fail : yX4_fail.cls = RX4 ∧ yX4_fail.cls ≠ "java/lang/invoke/MethodHandle" ∧ yX4_fail.cls ≠ "java/lang/invoke/VarHandle" ∧ (parseMethodDescriptor yX4_fail.desc).map (fun d => d.parameters.length) = some 1 := by decide +kernel
theorem ds_X2_renew : yX2_renew.cls = RX2 ∧ yX2_renew.cls ≠ "java/lang/invoke/MethodHandle" ∧ yX2_renew.cls ≠ "java/lang/invoke/VarHandle" ∧ (parseMethodDescriptor yX2_renew.desc).map (fun d => d.parameters.length) = some 2 := by decide +kernel
theorem ds_J7_fill_53178 : yJ7_fill_53178.cls = RJ7 ∧ yJ7_fill_53178.cls ≠ "java/lang/invoke/MethodHandle" ∧ yJ7_fill_53178.cls ≠ "java/lang/invoke/VarHandle" ∧ (parseMethodDescriptor yJ7_fill_53178.desc).map (fun d => d.parameters.length) = some 2 := by decide +kernel
theorem ds_X4_lose : yX4_lose.cls = RX4 ∧ yX4_lose.cls ≠ "java/lang/invoke/MethodHandle" ∧ yX4_lose.cls ≠ "java/lang/invoke/VarHandle" ∧ (parseMethodDescriptor yX4_lose.desc).map (fun d => d.parameters.length) = some 1 := by decide +kernel
theorem ds_X4_put : yX4_put.cls = RX4 ∧ yX4_put.cls ≠ "java/lang/invoke/MethodHandle" ∧ yX4_put.cls ≠ "java/lang/invoke/VarHandle" ∧ (parseMethodDescriptor yX4_put.desc).map (fun d => d.parameters.length) = some 3 := by decide +kernel
theorem ds_X2_hasCell : yX2_hasCell.cls = RX2 ∧ yX2_hasCell.cls ≠ "java/lang/invoke/MethodHandle" ∧ yX2_hasCell.cls ≠ "java/lang/invoke/VarHandle" ∧ (parseMethodDescriptor yX2_hasCell.desc).map (fun d => d.parameters.length) = some 1 := by decide +kernel
theorem ds_X2_fillIn : yX2_fillIn.cls = RX2 ∧ yX2_fillIn.cls ≠ "java/lang/invoke/MethodHandle" ∧ yX2_fillIn.cls ≠ "java/lang/invoke/VarHandle" ∧ (parseMethodDescriptor yX2_fillIn.desc).map (fun d => d.parameters.length) = some 2 := by decide +kernel
theorem ds_X4_cell : yX4_cell.cls = RX4 ∧ yX4_cell.cls ≠ "java/lang/invoke/MethodHandle" ∧ yX4_cell.cls ≠ "java/lang/invoke/VarHandle" ∧ (parseMethodDescriptor yX4_cell.desc).map (fun d => d.parameters.length) = some 3 := by decide +kernel
theorem ds_X2_faultAs : yX2_faultAs.cls = RX2 ∧ yX2_faultAs.cls ≠ "java/lang/invoke/MethodHandle" ∧ yX2_faultAs.cls ≠ "java/lang/invoke/VarHandle" ∧ (parseMethodDescriptor yX2_faultAs.desc).map (fun d => d.parameters.length) = some 1 := by decide +kernel
theorem ds_X4_copy : yX4_copy.cls = RX4 ∧ yX4_copy.cls ≠ "java/lang/invoke/MethodHandle" ∧ yX4_copy.cls ≠ "java/lang/invoke/VarHandle" ∧ (parseMethodDescriptor yX4_copy.desc).map (fun d => d.parameters.length) = some 5 := by decide +kernel
theorem ds_X2_hasCells : yX2_hasCells.cls = RX2 ∧ yX2_hasCells.cls ≠ "java/lang/invoke/MethodHandle" ∧ yX2_hasCells.cls ≠ "java/lang/invoke/VarHandle" ∧ (parseMethodDescriptor yX2_hasCells.desc).map (fun d => d.parameters.length) = some 2 := by decide +kernel
theorem ds_X4_watch : yX4_watch.cls = RX4 ∧ yX4_watch.cls ≠ "java/lang/invoke/MethodHandle" ∧ yX4_watch.cls ≠ "java/lang/invoke/VarHandle" ∧ (parseMethodDescriptor yX4_watch.desc).map (fun d => d.parameters.length) = some 5 := by decide +kernel
theorem ds_X2_watched : yX2_watched.cls = RX2 ∧ yX2_watched.cls ≠ "java/lang/invoke/MethodHandle" ∧ yX2_watched.cls ≠ "java/lang/invoke/VarHandle" ∧ (parseMethodDescriptor yX2_watched.desc).map (fun d => d.parameters.length) = some 3 := by decide +kernel
theorem ds_X4_tell : yX4_tell.cls = RX4 ∧ yX4_tell.cls ≠ "java/lang/invoke/MethodHandle" ∧ yX4_tell.cls ≠ "java/lang/invoke/VarHandle" ∧ (parseMethodDescriptor yX4_tell.desc).map (fun d => d.parameters.length) = some 1 := by decide +kernel
theorem ds_X4_leave : yX4_leave.cls = RX4 ∧ yX4_leave.cls ≠ "java/lang/invoke/MethodHandle" ∧ yX4_leave.cls ≠ "java/lang/invoke/VarHandle" ∧ (parseMethodDescriptor yX4_leave.desc).map (fun d => d.parameters.length) = some 1 := by decide +kernel
theorem ds_X4_tellTicket : yX4_tellTicket.cls = RX4 ∧ yX4_tellTicket.cls ≠ "java/lang/invoke/MethodHandle" ∧ yX4_tellTicket.cls ≠ "java/lang/invoke/VarHandle" ∧ (parseMethodDescriptor yX4_tellTicket.desc).map (fun d => d.parameters.length) = some 1 := by decide +kernel
theorem ds_X4_worth : yX4_worth.cls = RX4 ∧ yX4_worth.cls ≠ "java/lang/invoke/MethodHandle" ∧ yX4_worth.cls ≠ "java/lang/invoke/VarHandle" ∧ (parseMethodDescriptor yX4_worth.desc).map (fun d => d.parameters.length) = some 1 := by decide +kernel
theorem ds_X4_as : yX4_as.cls = RX4 ∧ yX4_as.cls ≠ "java/lang/invoke/MethodHandle" ∧ yX4_as.cls ≠ "java/lang/invoke/VarHandle" ∧ (parseMethodDescriptor yX4_as.desc).map (fun d => d.parameters.length) = some 2 := by decide +kernel
theorem ds_X4_trace : yX4_trace.cls = RX4 ∧ yX4_trace.cls ≠ "java/lang/invoke/MethodHandle" ∧ yX4_trace.cls ≠ "java/lang/invoke/VarHandle" ∧ (parseMethodDescriptor yX4_trace.desc).map (fun d => d.parameters.length) = some 0 := by decide +kernel
theorem ds_X4_fault : yX4_fault.cls = RX4 ∧ yX4_fault.cls ≠ "java/lang/invoke/MethodHandle" ∧ yX4_fault.cls ≠ "java/lang/invoke/VarHandle" ∧ (parseMethodDescriptor yX4_fault.desc).map (fun d => d.parameters.length) = some 0 := by decide +kernel
theorem ds_X4_told : yX4_told.cls = RX4 ∧ yX4_told.cls ≠ "java/lang/invoke/MethodHandle" ∧ yX4_told.cls ≠ "java/lang/invoke/VarHandle" ∧ (parseMethodDescriptor yX4_told.desc).map (fun d => d.parameters.length) = some 1 := by decide +kernel
theorem ds_X4_countNotReplaced : yX4_countNotReplaced.cls = RX4 ∧ yX4_countNotReplaced.cls ≠ "java/lang/invoke/MethodHandle" ∧ yX4_countNotReplaced.cls ≠ "java/lang/invoke/VarHandle" ∧ (parseMethodDescriptor yX4_countNotReplaced.desc).map (fun d => d.parameters.length) = some 0 := by decide +kernel
theorem ds_X5_init : yX5_init.cls = RX5 ∧ yX5_init.cls ≠ "java/lang/invoke/MethodHandle" ∧ yX5_init.cls ≠ "java/lang/invoke/VarHandle" ∧ (parseMethodDescriptor yX5_init.desc).map (fun d => d.parameters.length) = some 0 := by decide +kernel
theorem ds_X5_meter : yX5_meter.cls = RX5 ∧ yX5_meter.cls ≠ "java/lang/invoke/MethodHandle" ∧ yX5_meter.cls ≠ "java/lang/invoke/VarHandle" ∧ (parseMethodDescriptor yX5_meter.desc).map (fun d => d.parameters.length) = some 1 := by decide +kernel
theorem ds_X5_in : yX5_in.cls = RX5 ∧ yX5_in.cls ≠ "java/lang/invoke/MethodHandle" ∧ yX5_in.cls ≠ "java/lang/invoke/VarHandle" ∧ (parseMethodDescriptor yX5_in.desc).map (fun d => d.parameters.length) = some 3 := by decide +kernel
theorem ds_X5_factor : yX5_factor.cls = RX5 ∧ yX5_factor.cls ≠ "java/lang/invoke/MethodHandle" ∧ yX5_factor.cls ≠ "java/lang/invoke/VarHandle" ∧ (parseMethodDescriptor yX5_factor.desc).map (fun d => d.parameters.length) = some 4 := by decide +kernel
theorem ds_X5_noMeter : yX5_noMeter.cls = RX5 ∧ yX5_noMeter.cls ≠ "java/lang/invoke/MethodHandle" ∧ yX5_noMeter.cls ≠ "java/lang/invoke/VarHandle" ∧ (parseMethodDescriptor yX5_noMeter.desc).map (fun d => d.parameters.length) = some 1 := by decide +kernel
theorem ds_X5_isFlow : yX5_isFlow.cls = RX5 ∧ yX5_isFlow.cls ≠ "java/lang/invoke/MethodHandle" ∧ yX5_isFlow.cls ≠ "java/lang/invoke/VarHandle" ∧ (parseMethodDescriptor yX5_isFlow.desc).map (fun d => d.parameters.length) = some 1 := by decide +kernel
theorem ds_X5_isDay : yX5_isDay.cls = RX5 ∧ yX5_isDay.cls ≠ "java/lang/invoke/MethodHandle" ∧ yX5_isDay.cls ≠ "java/lang/invoke/VarHandle" ∧ (parseMethodDescriptor yX5_isDay.desc).map (fun d => d.parameters.length) = some 1 := by decide +kernel
theorem ds_X5_isNumber : yX5_isNumber.cls = RX5 ∧ yX5_isNumber.cls ≠ "java/lang/invoke/MethodHandle" ∧ yX5_isNumber.cls ≠ "java/lang/invoke/VarHandle" ∧ (parseMethodDescriptor yX5_isNumber.desc).map (fun d => d.parameters.length) = some 1 := by decide +kernel
theorem ds_X5_addFactor : yX5_addFactor.cls = RX5 ∧ yX5_addFactor.cls ≠ "java/lang/invoke/MethodHandle" ∧ yX5_addFactor.cls ≠ "java/lang/invoke/VarHandle" ∧ (parseMethodDescriptor yX5_addFactor.desc).map (fun d => d.parameters.length) = some 4 := by decide +kernel
theorem ds_X5_at : yX5_at.cls = RX5 ∧ yX5_at.cls ≠ "java/lang/invoke/MethodHandle" ∧ yX5_at.cls ≠ "java/lang/invoke/VarHandle" ∧ (parseMethodDescriptor yX5_at.desc).map (fun d => d.parameters.length) = some 3 := by decide +kernel
theorem ds_X5_factorAt : yX5_factorAt.cls = RX5 ∧ yX5_factorAt.cls ≠ "java/lang/invoke/MethodHandle" ∧ yX5_factorAt.cls ≠ "java/lang/invoke/VarHandle" ∧ (parseMethodDescriptor yX5_factorAt.desc).map (fun d => d.parameters.length) = some 3 := by decide +kernel
theorem ds_X5_findCurve : yX5_findCurve.cls = RX5 ∧ yX5_findCurve.cls ≠ "java/lang/invoke/MethodHandle" ∧ yX5_findCurve.cls ≠ "java/lang/invoke/VarHandle" ∧ (parseMethodDescriptor yX5_findCurve.desc).map (fun d => d.parameters.length) = some 2 := by decide +kernel
theorem ds_X5_addPoint : yX5_addPoint.cls = RX5 ∧ yX5_addPoint.cls ≠ "java/lang/invoke/MethodHandle" ∧ yX5_addPoint.cls ≠ "java/lang/invoke/VarHandle" ∧ (parseMethodDescriptor yX5_addPoint.desc).map (fun d => d.parameters.length) = some 1 := by decide +kernel
theorem ds_X5_points : yX5_points.cls = RX5 ∧ yX5_points.cls ≠ "java/lang/invoke/MethodHandle" ∧ yX5_points.cls ≠ "java/lang/invoke/VarHandle" ∧ (parseMethodDescriptor yX5_points.desc).map (fun d => d.parameters.length) = some 2 := by decide +kernel
theorem ds_X5_point : yX5_point.cls = RX5 ∧ yX5_point.cls ≠ "java/lang/invoke/MethodHandle" ∧ yX5_point.cls ≠ "java/lang/invoke/VarHandle" ∧ (parseMethodDescriptor yX5_point.desc).map (fun d => d.parameters.length) = some 4 := by decide +kernel
theorem ds_X5_proof : yX5_proof.cls = RX5 ∧ yX5_proof.cls ≠ "java/lang/invoke/MethodHandle" ∧ yX5_proof.cls ≠ "java/lang/invoke/VarHandle" ∧ (parseMethodDescriptor yX5_proof.desc).map (fun d => d.parameters.length) = some 3 := by decide +kernel
theorem ds_X5_run : yX5_run.cls = RX5 ∧ yX5_run.cls ≠ "java/lang/invoke/MethodHandle" ∧ yX5_run.cls ≠ "java/lang/invoke/VarHandle" ∧ (parseMethodDescriptor yX5_run.desc).map (fun d => d.parameters.length) = some 3 := by decide +kernel
theorem ds_X5_lost : yX5_lost.cls = RX5 ∧ yX5_lost.cls ≠ "java/lang/invoke/MethodHandle" ∧ yX5_lost.cls ≠ "java/lang/invoke/VarHandle" ∧ (parseMethodDescriptor yX5_lost.desc).map (fun d => d.parameters.length) = some 0 := by decide +kernel
theorem ds_X5_proving : yX5_proving.cls = RX5 ∧ yX5_proving.cls ≠ "java/lang/invoke/MethodHandle" ∧ yX5_proving.cls ≠ "java/lang/invoke/VarHandle" ∧ (parseMethodDescriptor yX5_proving.desc).map (fun d => d.parameters.length) = some 1 := by decide +kernel
theorem ds_X5_isGood : yX5_isGood.cls = RX5 ∧ yX5_isGood.cls ≠ "java/lang/invoke/MethodHandle" ∧ yX5_isGood.cls ≠ "java/lang/invoke/VarHandle" ∧ (parseMethodDescriptor yX5_isGood.desc).map (fun d => d.parameters.length) = some 0 := by decide +kernel
theorem ds_X5_accept : yX5_accept.cls = RX5 ∧ yX5_accept.cls ≠ "java/lang/invoke/MethodHandle" ∧ yX5_accept.cls ≠ "java/lang/invoke/VarHandle" ∧ (parseMethodDescriptor yX5_accept.desc).map (fun d => d.parameters.length) = some 1 := by decide +kernel
theorem ds_X5_rounded : yX5_rounded.cls = RX5 ∧ yX5_rounded.cls ≠ "java/lang/invoke/MethodHandle" ∧ yX5_rounded.cls ≠ "java/lang/invoke/VarHandle" ∧ (parseMethodDescriptor yX5_rounded.desc).map (fun d => d.parameters.length) = some 2 := by decide +kernel
theorem ds_X5_ticket : yX5_ticket.cls = RX5 ∧ yX5_ticket.cls ≠ "java/lang/invoke/MethodHandle" ∧ yX5_ticket.cls ≠ "java/lang/invoke/VarHandle" ∧ (parseMethodDescriptor yX5_ticket.desc).map (fun d => d.parameters.length) = some 4 := by decide +kernel
theorem ds_X5_isShut : yX5_isShut.cls = RX5 ∧ yX5_isShut.cls ≠ "java/lang/invoke/MethodHandle" ∧ yX5_isShut.cls ≠ "java/lang/invoke/VarHandle" ∧ (parseMethodDescriptor yX5_isShut.desc).map (fun d => d.parameters.length) = some 1 := by decide +kernel
theorem ds_X5_add : yX5_add.cls = RX5 ∧ yX5_add.cls ≠ "java/lang/invoke/MethodHandle" ∧ yX5_add.cls ≠ "java/lang/invoke/VarHandle" ∧ (parseMethodDescriptor yX5_add.desc).map (fun d => d.parameters.length) = some 6 := by decide +kernel
theorem ds_X5_right : yX5_right.cls = RX5 ∧ yX5_right.cls ≠ "java/lang/invoke/MethodHandle" ∧ yX5_right.cls ≠ "java/lang/invoke/VarHandle" ∧ (parseMethodDescriptor yX5_right.desc).map (fun d => d.parameters.length) = some 2 := by decide +kernel
theorem ds_X5_noTicket : yX5_noTicket.cls = RX5 ∧ yX5_noTicket.cls ≠ "java/lang/invoke/MethodHandle" ∧ yX5_noTicket.cls ≠ "java/lang/invoke/VarHandle" ∧ (parseMethodDescriptor yX5_noTicket.desc).map (fun d => d.parameters.length) = some 1 := by decide +kernel
theorem ds_X5_remake : yX5_remake.cls = RX5 ∧ yX5_remake.cls ≠ "java/lang/invoke/MethodHandle" ∧ yX5_remake.cls ≠ "java/lang/invoke/VarHandle" ∧ (parseMethodDescriptor yX5_remake.desc).map (fun d => d.parameters.length) = some 3 := by decide +kernel
theorem ds_X5_areDays : yX5_areDays.cls = RX5 ∧ yX5_areDays.cls ≠ "java/lang/invoke/MethodHandle" ∧ yX5_areDays.cls ≠ "java/lang/invoke/VarHandle" ∧ (parseMethodDescriptor yX5_areDays.desc).map (fun d => d.parameters.length) = some 2 := by decide +kernel
theorem ds_X5_isStale : yX5_isStale.cls = RX5 ∧ yX5_isStale.cls ≠ "java/lang/invoke/MethodHandle" ∧ yX5_isStale.cls ≠ "java/lang/invoke/VarHandle" ∧ (parseMethodDescriptor yX5_isStale.desc).map (fun d => d.parameters.length) = some 4 := by decide +kernel
theorem ds_X5_ticketed : yX5_ticketed.cls = RX5 ∧ yX5_ticketed.cls ≠ "java/lang/invoke/MethodHandle" ∧ yX5_ticketed.cls ≠ "java/lang/invoke/VarHandle" ∧ (parseMethodDescriptor yX5_ticketed.desc).map (fun d => d.parameters.length) = some 2 := by decide +kernel
theorem ds_X5_volume : yX5_volume.cls = RX5 ∧ yX5_volume.cls ≠ "java/lang/invoke/MethodHandle" ∧ yX5_volume.cls ≠ "java/lang/invoke/VarHandle" ∧ (parseMethodDescriptor yX5_volume.desc).map (fun d => d.parameters.length) = some 1 := by decide +kernel
theorem ds_X5_volumeOf : yX5_volumeOf.cls = RX5 ∧ yX5_volumeOf.cls ≠ "java/lang/invoke/MethodHandle" ∧ yX5_volumeOf.cls ≠ "java/lang/invoke/VarHandle" ∧ (parseMethodDescriptor yX5_volumeOf.desc).map (fun d => d.parameters.length) = some 1 := by decide +kernel
theorem ds_X5_sum : yX5_sum.cls = RX5 ∧ yX5_sum.cls ≠ "java/lang/invoke/MethodHandle" ∧ yX5_sum.cls ≠ "java/lang/invoke/VarHandle" ∧ (parseMethodDescriptor yX5_sum.desc).map (fun d => d.parameters.length) = some 3 := by decide +kernel
theorem ds_X5_sumOf : yX5_sumOf.cls = RX5 ∧ yX5_sumOf.cls ≠ "java/lang/invoke/MethodHandle" ∧ yX5_sumOf.cls ≠ "java/lang/invoke/VarHandle" ∧ (parseMethodDescriptor yX5_sumOf.desc).map (fun d => d.parameters.length) = some 3 := by decide +kernel
theorem ds_X5_shut : yX5_shut.cls = RX5 ∧ yX5_shut.cls ≠ "java/lang/invoke/MethodHandle" ∧ yX5_shut.cls ≠ "java/lang/invoke/VarHandle" ∧ (parseMethodDescriptor yX5_shut.desc).map (fun d => d.parameters.length) = some 1 := by decide +kernel
theorem ds_X5_line : yX5_line.cls = RX5 ∧ yX5_line.cls ≠ "java/lang/invoke/MethodHandle" ∧ yX5_line.cls ≠ "java/lang/invoke/VarHandle" ∧ (parseMethodDescriptor yX5_line.desc).map (fun d => d.parameters.length) = some 3 := by decide +kernel
theorem ds_X5_noLine : yX5_noLine.cls = RX5 ∧ yX5_noLine.cls ≠ "java/lang/invoke/MethodHandle" ∧ yX5_noLine.cls ≠ "java/lang/invoke/VarHandle" ∧ (parseMethodDescriptor yX5_noLine.desc).map (fun d => d.parameters.length) = some 1 := by decide +kernel
theorem ds_X5_lined : yX5_lined.cls = RX5 ∧ yX5_lined.cls ≠ "java/lang/invoke/MethodHandle" ∧ yX5_lined.cls ≠ "java/lang/invoke/VarHandle" ∧ (parseMethodDescriptor yX5_lined.desc).map (fun d => d.parameters.length) = some 2 := by decide +kernel
theorem ds_X5_end : yX5_end.cls = RX5 ∧ yX5_end.cls ≠ "java/lang/invoke/MethodHandle" ∧ yX5_end.cls ≠ "java/lang/invoke/VarHandle" ∧ (parseMethodDescriptor yX5_end.desc).map (fun d => d.parameters.length) = some 2 := by decide +kernel
theorem ds_X5_balance : yX5_balance.cls = RX5 ∧ yX5_balance.cls ≠ "java/lang/invoke/MethodHandle" ∧ yX5_balance.cls ≠ "java/lang/invoke/VarHandle" ∧ (parseMethodDescriptor yX5_balance.desc).map (fun d => d.parameters.length) = some 4 := by decide +kernel
theorem ds_X5_imbalance : yX5_imbalance.cls = RX5 ∧ yX5_imbalance.cls ≠ "java/lang/invoke/MethodHandle" ∧ yX5_imbalance.cls ≠ "java/lang/invoke/VarHandle" ∧ (parseMethodDescriptor yX5_imbalance.desc).map (fun d => d.parameters.length) = some 3 := by decide +kernel
theorem ds_X5_endsOf : yX5_endsOf.cls = RX5 ∧ yX5_endsOf.cls ≠ "java/lang/invoke/MethodHandle" ∧ yX5_endsOf.cls ≠ "java/lang/invoke/VarHandle" ∧ (parseMethodDescriptor yX5_endsOf.desc).map (fun d => d.parameters.length) = some 3 := by decide +kernel
theorem ds_X5_beyond : yX5_beyond.cls = RX5 ∧ yX5_beyond.cls ≠ "java/lang/invoke/MethodHandle" ∧ yX5_beyond.cls ≠ "java/lang/invoke/VarHandle" ∧ (parseMethodDescriptor yX5_beyond.desc).map (fun d => d.parameters.length) = some 2 := by decide +kernel
theorem ds_X5_beyondOf : yX5_beyondOf.cls = RX5 ∧ yX5_beyondOf.cls ≠ "java/lang/invoke/MethodHandle" ∧ yX5_beyondOf.cls ≠ "java/lang/invoke/VarHandle" ∧ (parseMethodDescriptor yX5_beyondOf.desc).map (fun d => d.parameters.length) = some 2 := by decide +kernel
theorem ds_X5_explains : yX5_explains.cls = RX5 ∧ yX5_explains.cls ≠ "java/lang/invoke/MethodHandle" ∧ yX5_explains.cls ≠ "java/lang/invoke/VarHandle" ∧ (parseMethodDescriptor yX5_explains.desc).map (fun d => d.parameters.length) = some 3 := by decide +kernel
theorem ds_X5_sheet : yX5_sheet.cls = RX5 ∧ yX5_sheet.cls ≠ "java/lang/invoke/MethodHandle" ∧ yX5_sheet.cls ≠ "java/lang/invoke/VarHandle" ∧ (parseMethodDescriptor yX5_sheet.desc).map (fun d => d.parameters.length) = some 3 := by decide +kernel
theorem ds_X5_noSheet : yX5_noSheet.cls = RX5 ∧ yX5_noSheet.cls ≠ "java/lang/invoke/MethodHandle" ∧ yX5_noSheet.cls ≠ "java/lang/invoke/VarHandle" ∧ (parseMethodDescriptor yX5_noSheet.desc).map (fun d => d.parameters.length) = some 1 := by decide +kernel
theorem ds_X5_refused : yX5_refused.cls = RX5 ∧ yX5_refused.cls ≠ "java/lang/invoke/MethodHandle" ∧ yX5_refused.cls ≠ "java/lang/invoke/VarHandle" ∧ (parseMethodDescriptor yX5_refused.desc).map (fun d => d.parameters.length) = some 1 := by decide +kernel
theorem ds_X5_failed : yX5_failed.cls = RX5 ∧ yX5_failed.cls ≠ "java/lang/invoke/MethodHandle" ∧ yX5_failed.cls ≠ "java/lang/invoke/VarHandle" ∧ (parseMethodDescriptor yX5_failed.desc).map (fun d => d.parameters.length) = some 1 := by decide +kernel
theorem ds_X5_lose : yX5_lose.cls = RX5 ∧ yX5_lose.cls ≠ "java/lang/invoke/MethodHandle" ∧ yX5_lose.cls ≠ "java/lang/invoke/VarHandle" ∧ (parseMethodDescriptor yX5_lose.desc).map (fun d => d.parameters.length) = some 1 := by decide +kernel
theorem ds_X5_put : yX5_put.cls = RX5 ∧ yX5_put.cls ≠ "java/lang/invoke/MethodHandle" ∧ yX5_put.cls ≠ "java/lang/invoke/VarHandle" ∧ (parseMethodDescriptor yX5_put.desc).map (fun d => d.parameters.length) = some 3 := by decide +kernel
theorem ds_X5_noCell : yX5_noCell.cls = RX5 ∧ yX5_noCell.cls ≠ "java/lang/invoke/MethodHandle" ∧ yX5_noCell.cls ≠ "java/lang/invoke/VarHandle" ∧ (parseMethodDescriptor yX5_noCell.desc).map (fun d => d.parameters.length) = some 2 := by decide +kernel
theorem ds_X5_cell : yX5_cell.cls = RX5 ∧ yX5_cell.cls ≠ "java/lang/invoke/MethodHandle" ∧ yX5_cell.cls ≠ "java/lang/invoke/VarHandle" ∧ (parseMethodDescriptor yX5_cell.desc).map (fun d => d.parameters.length) = some 3 := by decide +kernel
theorem ds_X5_failedLong : yX5_failedLong.cls = RX5 ∧ yX5_failedLong.cls ≠ "java/lang/invoke/MethodHandle" ∧ yX5_failedLong.cls ≠ "java/lang/invoke/VarHandle" ∧ (parseMethodDescriptor yX5_failedLong.desc).map (fun d => d.parameters.length) = some 1 := by decide +kernel
theorem ds_X5_copy : yX5_copy.cls = RX5 ∧ yX5_copy.cls ≠ "java/lang/invoke/MethodHandle" ∧ yX5_copy.cls ≠ "java/lang/invoke/VarHandle" ∧ (parseMethodDescriptor yX5_copy.desc).map (fun d => d.parameters.length) = some 5 := by decide +kernel
theorem ds_X5_isBeyond : yX5_isBeyond.cls = RX5 ∧ yX5_isBeyond.cls ≠ "java/lang/invoke/MethodHandle" ∧ yX5_isBeyond.cls ≠ "java/lang/invoke/VarHandle" ∧ (parseMethodDescriptor yX5_isBeyond.desc).map (fun d => d.parameters.length) = some 3 := by decide +kernel
theorem ds_X5_watch : yX5_watch.cls = RX5 ∧ yX5_watch.cls ≠ "java/lang/invoke/MethodHandle" ∧ yX5_watch.cls ≠ "java/lang/invoke/VarHandle" ∧ (parseMethodDescriptor yX5_watch.desc).map (fun d => d.parameters.length) = some 5 := by decide +kernel
theorem ds_X5_tell : yX5_tell.cls = RX5 ∧ yX5_tell.cls ≠ "java/lang/invoke/MethodHandle" ∧ yX5_tell.cls ≠ "java/lang/invoke/VarHandle" ∧ (parseMethodDescriptor yX5_tell.desc).map (fun d => d.parameters.length) = some 1 := by decide +kernel
theorem ds_X5_traced : yX5_traced.cls = RX5 ∧ yX5_traced.cls ≠ "java/lang/invoke/MethodHandle" ∧ yX5_traced.cls ≠ "java/lang/invoke/VarHandle" ∧ (parseMethodDescriptor yX5_traced.desc).map (fun d => d.parameters.length) = some 1 := by decide +kernel
theorem ds_X5_worth : yX5_worth.cls = RX5 ∧ yX5_worth.cls ≠ "java/lang/invoke/MethodHandle" ∧ yX5_worth.cls ≠ "java/lang/invoke/VarHandle" ∧ (parseMethodDescriptor yX5_worth.desc).map (fun d => d.parameters.length) = some 1 := by decide +kernel
theorem ds_X5_as : yX5_as.cls = RX5 ∧ yX5_as.cls ≠ "java/lang/invoke/MethodHandle" ∧ yX5_as.cls ≠ "java/lang/invoke/VarHandle" ∧ (parseMethodDescriptor yX5_as.desc).map (fun d => d.parameters.length) = some 2 := by decide +kernel
theorem ds_X5_trace : yX5_trace.cls = RX5 ∧ yX5_trace.cls ≠ "java/lang/invoke/MethodHandle" ∧ yX5_trace.cls ≠ "java/lang/invoke/VarHandle" ∧ (parseMethodDescriptor yX5_trace.desc).map (fun d => d.parameters.length) = some 0 := by decide +kernel
theorem ds_X5_fault : yX5_fault.cls = RX5 ∧ yX5_fault.cls ≠ "java/lang/invoke/MethodHandle" ∧ yX5_fault.cls ≠ "java/lang/invoke/VarHandle" ∧ (parseMethodDescriptor yX5_fault.desc).map (fun d => d.parameters.length) = some 0 := by decide +kernel
theorem ds_X5_told : yX5_told.cls = RX5 ∧ yX5_told.cls ≠ "java/lang/invoke/MethodHandle" ∧ yX5_told.cls ≠ "java/lang/invoke/VarHandle" ∧ (parseMethodDescriptor yX5_told.desc).map (fun d => d.parameters.length) = some 1 := by decide +kernel
theorem gV_RL_13 : GoodIn wsL_law (wsV RL 13 RX4 yX4_meter (wsU yX4_meter cX4_meter 2 (some .int))) := goodV wML_RL_13 wIM_X4_meter wSE_X4_meter wIN_RX4 wCO_X4_meter
theorem gS_RX4_54 : GoodIn wsL_law (va_wsS RX4 54 yX4_isWithin (wsU yX4_isWithin cX4_isWithin 3 (some .boolean))) := goodS wML_RX4_54 wST_X4_isWithin wIN_RX4 wCO_X4_isWithin
theorem gV_RL_18 : GoodIn wsL_law (wsV RL 18 RX4 yX4_factor (wsU yX4_factor cX4_factor 6 (some .int))) := goodV wML_RL_18 wIM_X4_factor wSE_X4_factor wIN_RX4 wCO_X4_factor
theorem gV_RX4_61 : GoodIn wsL_law (wsV RX4 61 RX4 yX4_isMeter (wsU yX4_isMeter cX4_isMeter 2 (some .boolean))) := goodV wML_RX4_61 wIM_X4_isMeter wSE_X4_isMeter wIN_RX4 wCO_X4_isMeter
theorem gS_RX4_65 : GoodIn wsL_law (va_wsS RX4 65 yX4_isFlow (wsU yX4_isFlow cX4_isFlow 1 (some .boolean))) := goodS wML_RX4_65 wST_X4_isFlow wIN_RX4 wCO_X4_isFlow
theorem gS_RX4_68 : GoodIn wsL_law (va_wsS RX4 68 yX4_isDay (wsU yX4_isDay cX4_isDay 1 (some .boolean))) := goodS wML_RX4_68 wST_X4_isDay wIN_RX4 wCO_X4_isDay
theorem gV_RX4_73 : GoodIn wsL_law (wsV RX4 73 RX0 yX0_isFull (wsU yX0_isFull cX0_isFull 1 (some .boolean))) := goodV wML_RX4_73 wIM_X0_isFull wSE_X0_isFull wIN_RX0 wCO_X0_isFull
theorem gV_RX4_77 : GoodIn wsL_law (wsV RX4 77 RX0 yX0_takeFactor (wsU yX0_takeFactor cX0_takeFactor 5 none)) := goodV wML_RX4_77 wIM_X0_takeFactor wSE_X0_takeFactor wIN_RX0 wCO_X0_takeFactor
theorem gV_RX0_34 : GoodIn wsL_law (wsV RX0 34 RX0 yX0_standsBehind (wsU yX0_standsBehind cX0_standsBehind 4 (some .boolean))) := goodV wML_RX0_34 wIM_X0_standsBehind wSE_X0_standsBehind wIN_RX0 wCO_X0_standsBehind
theorem gV_RL_23 : GoodIn wsL_law (wsV RL 23 RX4 yX4_at (wsU yX4_at cX4_at 4 (some .int))) := goodV wML_RL_23 wIM_X4_at wSE_X4_at wIN_RX4 wCO_X4_at
theorem gV_RX4_84 : GoodIn wsL_law (wsV RX4 84 RX0 yX0_factorAt (wsU yX0_factorAt cX0_factorAt 6 (some .int))) := goodV wML_RX4_84 wIM_X0_factorAt wSE_X0_factorAt wIN_RX0 wCO_X0_factorAt
theorem gV_RX0_38 : GoodIn wsL_law (wsV RX0 38 RX0 yX0_isOnCurve (wsU yX0_isOnCurve cX0_isOnCurve 4 (some .boolean))) := goodV wML_RX0_38 wIM_X0_isOnCurve wSE_X0_isOnCurve wIN_RX0 wCO_X0_isOnCurve
theorem gV_RX0_43 : GoodIn wsL_law (wsV RX0 43 RX0 yX0_between (wsU yX0_between cX0_between 5 (some .int))) := goodV wML_RX0_43 wIM_X0_between wSE_X0_between wIN_RX0 wCO_X0_between
theorem gV_RL_28 : GoodIn wsL_law (wsV RL 28 RX4 yX4_points (wsU yX4_points cX4_points 3 (some .int))) := goodV wML_RL_28 wIM_X4_points wSE_X4_points wIN_RX4 wCO_X4_points
theorem gV_RX4_88 : GoodIn wsL_law (wsV RX4 88 RX0 yX0_curveSize (wsU yX0_curveSize cX0_curveSize 4 (some .int))) := goodV wML_RX4_88 wIM_X0_curveSize wSE_X0_curveSize wIN_RX0 wCO_X0_curveSize
theorem gV_RL_33 : GoodIn wsL_law (wsV RL 33 RX4 yX4_point (wsU yX4_point cX4_point 6 (some .int))) := goodV wML_RL_33 wIM_X4_point wSE_X4_point wIN_RX4 wCO_X4_point
theorem gV_RX4_92 : GoodIn wsL_law (wsV RX4 92 RX0 yX0_curvePlace (wsU yX0_curvePlace cX0_curvePlace 5 (some .int))) := goodV wML_RX4_92 wIM_X0_curvePlace wSE_X0_curvePlace wIN_RX0 wCO_X0_curvePlace
theorem gV_RL_37 : GoodIn wsL_law (wsV RL 37 RX4 yX4_proof (wsU yX4_proof cX4_proof 4 (some .int))) := goodV wML_RL_37 wIM_X4_proof wSE_X4_proof wIN_RX4 wCO_X4_proof
theorem gV_RX4_103 : GoodIn wsL_law (wsV RX4 103 RX1 yX1_begin (wsU yX1_begin cX1_begin 4 none)) := goodV wML_RX4_103 wIM_X1_begin wSE_X1_begin wIN_RX1 wCO_X1_begin
theorem gV_RL_41 : GoodIn wsL_law (wsV RL 41 RX4 yX4_run (wsU yX4_run cX4_run 6 (some .long))) := goodV wML_RL_41 wIM_X4_run wSE_X4_run wIN_RX4 wCO_X4_run
theorem gV_RL_46 : GoodIn wsL_law (wsV RL 46 RX4 yX4_proving (wsU yX4_proving cX4_proving 2 (some .int))) := goodV wML_RL_46 wIM_X4_proving wSE_X4_proving wIN_RX4 wCO_X4_proving
theorem gV_RX4_121 : GoodIn wsL_law (wsV RX4 121 RX1 yX1_isGood (wsU yX1_isGood cX1_isGood 6 (some .boolean))) := goodV wML_RX4_121 wIM_X1_isGood wSE_X1_isGood wIN_RX1 wCO_X1_isGood
theorem gV_RL_50 : GoodIn wsL_law (wsV RL 50 RX4 yX4_accept (wsU yX4_accept cX4_accept 5 (some .int))) := goodV wML_RL_50 wIM_X4_accept wSE_X4_accept wIN_RX4 wCO_X4_accept
theorem gV_RX4_133 : GoodIn wsL_law (wsV RX4 133 RX1 yX1_factorOf (wsU yX1_factorOf cX1_factorOf 5 (some .long))) := goodV wML_RX4_133 wIM_X1_factorOf wSE_X1_factorOf wIN_RX1 wCO_X1_factorOf
theorem gV_RL_54 : GoodIn wsL_law (wsV RL 54 RX4 yX4_ticket (wsU yX4_ticket cX4_ticket 5 (some .int))) := goodV wML_RL_54 wIM_X4_ticket wSE_X4_ticket wIN_RX4 wCO_X4_ticket
theorem gV_RX4_142 : GoodIn wsL_law (wsV RX4 142 RX4 yX4_isShut (wsU yX4_isShut cX4_isShut 2 (some .boolean))) := goodV wML_RX4_142 wIM_X4_isShut wSE_X4_isShut wIN_RX4 wCO_X4_isShut
theorem gV_RX4_148 : GoodIn wsL_law (wsV RX4 148 RX4 yX4_keep (wsU yX4_keep cX4_keep 2 none)) := goodV wML_RX4_148 wIM_X4_keep wSE_X4_keep wIN_RX4 wCO_X4_keep
theorem gV_RL_58 : GoodIn wsL_law (wsV RL 58 RX4 yX4_right (wsU yX4_right cX4_right 3 (some .int))) := goodV wML_RL_58 wIM_X4_right wSE_X4_right wIN_RX4 wCO_X4_right
theorem gV_RX4_152 : GoodIn wsL_law (wsV RX4 152 RX4 yX4_isTicket (wsU yX4_isTicket cX4_isTicket 2 (some .boolean))) := goodV wML_RX4_152 wIM_X4_isTicket wSE_X4_isTicket wIN_RX4 wCO_X4_isTicket
theorem gV_RX4_155 : GoodIn wsL_law (wsV RX4 155 RX3 yX3_isReplaced (wsU yX3_isReplaced cX3_isReplaced 1 (some .boolean))) := goodV wML_RX4_155 wIM_X3_isReplaced wSE_X3_isReplaced wIN_RX3 wCO_X3_isReplaced
theorem gV_RX4_161 : GoodIn wsL_law (wsV RX4 161 RX4 yX4_replace (wsU yX4_replace cX4_replace 6 none)) := goodV wML_RX4_161 wIM_X4_replace wSE_X4_replace wIN_RX4 wCO_X4_replace
theorem gV_RX4_287 : GoodIn wsL_law (wsV RX4 287 RX4 yX4_factorNow (wsU yX4_factorNow cX4_factorNow 2 (some .int))) := goodV wML_RX4_287 wIM_X4_factorNow wSE_X4_factorNow wIN_RX4 wCO_X4_factorNow
theorem gV_RL_62 : GoodIn wsL_law (wsV RL 62 RX4 yX4_remake (wsU yX4_remake cX4_remake 7 (some .int))) := goodV wML_RL_62 wIM_X4_remake wSE_X4_remake wIN_RX4 wCO_X4_remake
theorem gS_RX4_164 : GoodIn wsL_law (va_wsS RX4 164 yX4_areDays (wsU yX4_areDays cX4_areDays 2 (some .boolean))) := goodS wML_RX4_164 wST_X4_areDays wIN_RX4 wCO_X4_areDays
theorem gV_RX4_168 : GoodIn wsL_law (wsV RX4 168 RX4 yX4_isToRemake (wsU yX4_isToRemake cX4_isToRemake 5 (some .boolean))) := goodV wML_RX4_168 wIM_X4_isToRemake wSE_X4_isToRemake wIN_RX4 wCO_X4_isToRemake
theorem gV_RX4_290 : GoodIn wsL_law (wsV RX4 290 RX3 yX3_counts (wsU yX3_counts cX3_counts 4 (some .boolean))) := goodV wML_RX4_290 wIM_X3_counts wSE_X3_counts wIN_RX3 wCO_X3_counts
theorem gV_RX3_40 : GoodIn wsL_law (wsV RX3 40 RX3 yX3_isReplaced (wsU yX3_isReplaced cX3_isReplaced 1 (some .boolean))) := goodV wML_RX3_40 wIM_X3_isReplaced wSE_X3_isReplaced wIN_RX3 wCO_X3_isReplaced
theorem gV_RL_66 : GoodIn wsL_law (wsV RL 66 RX4 yX4_ticketed (wsU yX4_ticketed cX4_ticketed 4 (some .int))) := goodV wML_RL_66 wIM_X4_ticketed wSE_X4_ticketed wIN_RX4 wCO_X4_ticketed
theorem gV_RL_70 : GoodIn wsL_law (wsV RL 70 RX4 yX4_volume (wsU yX4_volume cX4_volume 2 (some .long))) := goodV wML_RL_70 wIM_X4_volume wSE_X4_volume wIN_RX4 wCO_X4_volume
theorem gV_RX4_189 : GoodIn wsL_law (wsV RX4 189 RX4 yX4_volumeOf (wsU yX4_volumeOf cX4_volumeOf 2 (some .long))) := goodV wML_RX4_189 wIM_X4_volumeOf wSE_X4_volumeOf wIN_RX4 wCO_X4_volumeOf
theorem gS_RX4_294 : GoodIn wsL_law (va_wsS RX4 294 yX4_rounded (wsU yX4_rounded cX4_rounded 4 (some .long))) := goodS wML_RX4_294 wST_X4_rounded wIN_RX4 wCO_X4_rounded
theorem gV_RL_75 : GoodIn wsL_law (wsV RL 75 RX4 yX4_sum (wsU yX4_sum cX4_sum 4 (some .long))) := goodV wML_RL_75 wIM_X4_sum wSE_X4_sum wIN_RX4 wCO_X4_sum
theorem gV_RX4_193 : GoodIn wsL_law (wsV RX4 193 RX4 yX4_sumOf (wsU yX4_sumOf cX4_sumOf 7 (some .long))) := goodV wML_RX4_193 wIM_X4_sumOf wSE_X4_sumOf wIN_RX4 wCO_X4_sumOf
theorem gV_RL_79 : GoodIn wsL_law (wsV RL 79 RX4 yX4_shut (wsU yX4_shut cX4_shut 3 (some .int))) := goodV wML_RL_79 wIM_X4_shut wSE_X4_shut wIN_RX4 wCO_X4_shut
theorem gV_RL_83 : GoodIn wsL_law (wsV RL 83 RX4 yX4_line (wsU yX4_line cX4_line 5 (some .int))) := goodV wML_RL_83 wIM_X4_line wSE_X4_line wIN_RX4 wCO_X4_line
theorem gS_RX4_197 : GoodIn wsL_law (va_wsS RX4 197 yX4_isLine (wsU yX4_isLine cX4_isLine 1 (some .boolean))) := goodS wML_RX4_197 wST_X4_isLine wIN_RX4 wCO_X4_isLine
theorem gV_RL_87 : GoodIn wsL_law (wsV RL 87 RX4 yX4_lined (wsU yX4_lined cX4_lined 3 (some .int))) := goodV wML_RL_87 wIM_X4_lined wSE_X4_lined wIN_RX4 wCO_X4_lined
theorem gV_RL_91 : GoodIn wsL_law (wsV RL 91 RX4 yX4_end (wsU yX4_end cX4_end 4 (some .int))) := goodV wML_RL_91 wIM_X4_end wSE_X4_end wIN_RX4 wCO_X4_end
theorem gV_RL_95 : GoodIn wsL_law (wsV RL 95 RX4 yX4_balance (wsU yX4_balance cX4_balance 5 (some .long))) := goodV wML_RL_95 wIM_X4_balance wSE_X4_balance wIN_RX4 wCO_X4_balance
theorem gV_RX4_206 : GoodIn wsL_law (wsV RX4 206 RX4 yX4_imbalanceOf (wsU yX4_imbalanceOf cX4_imbalanceOf 7 (some .long))) := goodV wML_RX4_206 wIM_X4_imbalanceOf wSE_X4_imbalanceOf wIN_RX4 wCO_X4_imbalanceOf
theorem gV_RX4_209 : GoodIn wsL_law (wsV RX4 209 RX4 yX4_endsOf (wsU yX4_endsOf cX4_endsOf 7 (some .long))) := goodV wML_RX4_209 wIM_X4_endsOf wSE_X4_endsOf wIN_RX4 wCO_X4_endsOf
theorem gV_RL_100 : GoodIn wsL_law (wsV RL 100 RX4 yX4_beyond (wsU yX4_beyond cX4_beyond 3 (some .int))) := goodV wML_RL_100 wIM_X4_beyond wSE_X4_beyond wIN_RX4 wCO_X4_beyond
theorem gV_RX4_212 : GoodIn wsL_law (wsV RX4 212 RX4 yX4_linesBeyond (wsU yX4_linesBeyond cX4_linesBeyond 5 (some .int))) := goodV wML_RX4_212 wIM_X4_linesBeyond wSE_X4_linesBeyond wIN_RX4 wCO_X4_linesBeyond
theorem gV_RL_104 : GoodIn wsL_law (wsV RL 104 RX4 yX4_explains (wsU yX4_explains cX4_explains 15 (some .long))) := goodV wML_RL_104 wIM_X4_explains wSE_X4_explains wIN_RX4 wCO_X4_explains
theorem gV_RL_108 : GoodIn wsL_law (wsV RL 108 RX4 yX4_sheet (wsU yX4_sheet cX4_sheet 4 (some .int))) := goodV wML_RL_108 wIM_X4_sheet wSE_X4_sheet wIN_RX4 wCO_X4_sheet
theorem gS_RX4_228 : GoodIn wsL_law (va_wsS RX4 228 yX4_isSheet (wsU yX4_isSheet cX4_isSheet 1 (some .boolean))) := goodS wML_RX4_228 wST_X4_isSheet wIN_RX4 wCO_X4_isSheet
theorem gS_RX4_231 : GoodIn wsL_law (va_wsS RX4 231 yX4_isLane (wsU yX4_isLane cX4_isLane 1 (some .boolean))) := goodS wML_RX4_231 wST_X4_isLane wIN_RX4 wCO_X4_isLane
theorem gV_RX4_234 : GoodIn wsL_law (wsV RX4 234 RX4 yX4_fail (wsU yX4_fail cX4_fail 2 (some .int))) := goodV wML_RX4_234 wIM_X4_fail wSE_X4_fail wIN_RX4 wCO_X4_fail
theorem gV_RX4_237 : GoodIn wsL_law (wsV RX4 237 RX2 yX2_renew (wsU yX2_renew cX2_renew 3 none)) := goodV wML_RX4_237 wIM_X2_renew wSE_X2_renew wIN_RX2 wCO_X2_renew
theorem gS_RX2_26 : GoodIn wsL_law (va_wsS RX2 26 yJ7_fill_53178 (wsU yJ7_fill_53178 cJ7_fill_53178 4 none)) := goodS wML_RX2_26 wST_J7_fill_53178 wIN_RJ7 wCO_J7_fill_53178
theorem gV_RL_112 : GoodIn wsL_law (wsV RL 112 RX4 yX4_lose (wsU yX4_lose cX4_lose 3 (some .int))) := goodV wML_RL_112 wIM_X4_lose wSE_X4_lose wIN_RX4 wCO_X4_lose
theorem gV_RL_116 : GoodIn wsL_law (wsV RL 116 RX4 yX4_put (wsU yX4_put cX4_put 4 (some .int))) := goodV wML_RL_116 wIM_X4_put wSE_X4_put wIN_RX4 wCO_X4_put
theorem gV_RX4_244 : GoodIn wsL_law (wsV RX4 244 RX2 yX2_hasCell (wsU yX2_hasCell cX2_hasCell 2 (some .boolean))) := goodV wML_RX4_244 wIM_X2_hasCell wSE_X2_hasCell wIN_RX2 wCO_X2_hasCell
theorem gV_RX4_247 : GoodIn wsL_law (wsV RX4 247 RX2 yX2_fillIn (wsU yX2_fillIn cX2_fillIn 3 none)) := goodV wML_RX4_247 wIM_X2_fillIn wSE_X2_fillIn wIN_RX2 wCO_X2_fillIn
theorem gV_RL_120 : GoodIn wsL_law (wsV RL 120 RX4 yX4_cell (wsU yX4_cell cX4_cell 4 (some .long))) := goodV wML_RL_120 wIM_X4_cell wSE_X4_cell wIN_RX4 wCO_X4_cell
theorem gV_RX4_250 : GoodIn wsL_law (wsV RX4 250 RX2 yX2_faultAs (wsU yX2_faultAs cX2_faultAs 2 (some .int))) := goodV wML_RX4_250 wIM_X2_faultAs wSE_X2_faultAs wIN_RX2 wCO_X2_faultAs
theorem gV_RL_124 : GoodIn wsL_law (wsV RL 124 RX4 yX4_copy (wsU yX4_copy cX4_copy 8 (some .int))) := goodV wML_RL_124 wIM_X4_copy wSE_X4_copy wIN_RX4 wCO_X4_copy
theorem gV_RX4_259 : GoodIn wsL_law (wsV RX4 259 RX2 yX2_hasCells (wsU yX2_hasCells cX2_hasCells 3 (some .boolean))) := goodV wML_RX4_259 wIM_X2_hasCells wSE_X2_hasCells wIN_RX2 wCO_X2_hasCells
theorem gV_RL_129 : GoodIn wsL_law (wsV RL 129 RX4 yX4_watch (wsU yX4_watch cX4_watch 7 (some .int))) := goodV wML_RL_129 wIM_X4_watch wSE_X4_watch wIN_RX4 wCO_X4_watch
theorem gV_RX4_268 : GoodIn wsL_law (wsV RX4 268 RX2 yX2_watched (wsU yX2_watched cX2_watched 11 (some .int))) := goodV wML_RX4_268 wIM_X2_watched wSE_X2_watched wIN_RX2 wCO_X2_watched
theorem gV_RL_133 : GoodIn wsL_law (wsV RL 133 RX4 yX4_tell (wsU yX4_tell cX4_tell 2 (some .int))) := goodV wML_RL_133 wIM_X4_tell wSE_X4_tell wIN_RX4 wCO_X4_tell
theorem gV_RX4_272 : GoodIn wsL_law (wsV RX4 272 RX4 yX4_leave (wsU yX4_leave cX4_leave 2 none)) := goodV wML_RX4_272 wIM_X4_leave wSE_X4_leave wIN_RX4 wCO_X4_leave
theorem gV_RX4_275 : GoodIn wsL_law (wsV RX4 275 RX4 yX4_tellTicket (wsU yX4_tellTicket cX4_tellTicket 2 (some .int))) := goodV wML_RX4_275 wIM_X4_tellTicket wSE_X4_tellTicket wIN_RX4 wCO_X4_tellTicket
theorem gV_RL_137 : GoodIn wsL_law (wsV RL 137 RX4 yX4_worth (wsU yX4_worth cX4_worth 2 (some .int))) := goodV wML_RL_137 wIM_X4_worth wSE_X4_worth wIN_RX4 wCO_X4_worth
theorem gV_RL_141 : GoodIn wsL_law (wsV RL 141 RX4 yX4_as (wsU yX4_as cX4_as 3 (some .int))) := goodV wML_RL_141 wIM_X4_as wSE_X4_as wIN_RX4 wCO_X4_as
theorem gV_RL_145 : GoodIn wsL_law (wsV RL 145 RX4 yX4_trace (wsU yX4_trace cX4_trace 1 (some .int))) := goodV wML_RL_145 wIM_X4_trace wSE_X4_trace wIN_RX4 wCO_X4_trace
theorem gV_RL_150 : GoodIn wsL_law (wsV RL 150 RX4 yX4_fault (wsU yX4_fault cX4_fault 1 (some .int))) := goodV wML_RL_150 wIM_X4_fault wSE_X4_fault wIN_RX4 wCO_X4_fault
theorem gV_RL_154 : GoodIn wsL_law (wsV RL 154 RX4 yX4_told (wsU yX4_told cX4_told 2 (some .int))) := goodV wML_RL_154 wIM_X4_told wSE_X4_told wIN_RX4 wCO_X4_told
theorem gV_RX4_281 : GoodIn wsL_law (wsV RX4 281 RX4 yX4_countNotReplaced (wsU yX4_countNotReplaced cX4_countNotReplaced 3 (some .int))) := goodV wML_RX4_281 wIM_X4_countNotReplaced wSE_X4_countNotReplaced wIN_RX4 wCO_X4_countNotReplaced
theorem gV_RL_17 : GoodIn wsL_law (wsV RL 17 RX5 yX5_meter (wsU yX5_meter cX5_meter 2 (some .int))) := goodV wML_RL_17 wIM_X5_meter wSE_X5_meter wIN_RX5 wCO_X5_meter
theorem gS_RX5_101 : GoodIn wsL_law (va_wsS RX5 101 yX5_in (wsU yX5_in cX5_in 6 (some .boolean))) := goodS wML_RX5_101 wST_X5_in wIN_RX5 wCO_X5_in
theorem gV_RL_22 : GoodIn wsL_law (wsV RL 22 RX5 yX5_factor (wsU yX5_factor cX5_factor 5 (some .int))) := goodV wML_RL_22 wIM_X5_factor wSE_X5_factor wIN_RX5 wCO_X5_factor
theorem gV_RX5_115 : GoodIn wsL_law (wsV RX5 115 RX5 yX5_noMeter (wsU yX5_noMeter cX5_noMeter 2 (some .boolean))) := goodV wML_RX5_115 wIM_X5_noMeter wSE_X5_noMeter wIN_RX5 wCO_X5_noMeter
theorem gS_RX5_119 : GoodIn wsL_law (va_wsS RX5 119 yX5_isFlow (wsU yX5_isFlow cX5_isFlow 1 (some .boolean))) := goodS wML_RX5_119 wST_X5_isFlow wIN_RX5 wCO_X5_isFlow
theorem gS_RX5_122 : GoodIn wsL_law (va_wsS RX5 122 yX5_isDay (wsU yX5_isDay cX5_isDay 1 (some .boolean))) := goodS wML_RX5_122 wST_X5_isDay wIN_RX5 wCO_X5_isDay
theorem gS_RX5_125 : GoodIn wsL_law (va_wsS RX5 125 yX5_isNumber (wsU yX5_isNumber cX5_isNumber 2 (some .boolean))) := goodS wML_RX5_125 wST_X5_isNumber wIN_RX5 wCO_X5_isNumber
theorem gV_RX5_129 : GoodIn wsL_law (wsV RX5 129 RX5 yX5_addFactor (wsU yX5_addFactor cX5_addFactor 6 none)) := goodV wML_RX5_129 wIM_X5_addFactor wSE_X5_addFactor wIN_RX5 wCO_X5_addFactor
theorem gV_RL_27 : GoodIn wsL_law (wsV RL 27 RX5 yX5_at (wsU yX5_at cX5_at 4 (some .int))) := goodV wML_RL_27 wIM_X5_at wSE_X5_at wIN_RX5 wCO_X5_at
theorem gV_RX5_145 : GoodIn wsL_law (wsV RX5 145 RX5 yX5_factorAt (wsU yX5_factorAt cX5_factorAt 9 (some .int))) := goodV wML_RX5_145 wIM_X5_factorAt wSE_X5_factorAt wIN_RX5 wCO_X5_factorAt
theorem gV_RX5_140 : GoodIn wsL_law (wsV RX5 140 RX5 yX5_findCurve (wsU yX5_findCurve cX5_findCurve 4 none)) := goodV wML_RX5_140 wIM_X5_findCurve wSE_X5_findCurve wIN_RX5 wCO_X5_findCurve
theorem gV_RX5_136 : GoodIn wsL_law (wsV RX5 136 RX5 yX5_addPoint (wsU yX5_addPoint cX5_addPoint 5 none)) := goodV wML_RX5_136 wIM_X5_addPoint wSE_X5_addPoint wIN_RX5 wCO_X5_addPoint
theorem gV_RL_32 : GoodIn wsL_law (wsV RL 32 RX5 yX5_points (wsU yX5_points cX5_points 3 (some .int))) := goodV wML_RL_32 wIM_X5_points wSE_X5_points wIN_RX5 wCO_X5_points
theorem gV_RL_36 : GoodIn wsL_law (wsV RL 36 RX5 yX5_point (wsU yX5_point cX5_point 5 (some .int))) := goodV wML_RL_36 wIM_X5_point wSE_X5_point wIN_RX5 wCO_X5_point
theorem gV_RL_40 : GoodIn wsL_law (wsV RL 40 RX5 yX5_proof (wsU yX5_proof cX5_proof 4 (some .int))) := goodV wML_RL_40 wIM_X5_proof wSE_X5_proof wIN_RX5 wCO_X5_proof
theorem gV_RL_45 : GoodIn wsL_law (wsV RL 45 RX5 yX5_run (wsU yX5_run cX5_run 4 (some .long))) := goodV wML_RL_45 wIM_X5_run wSE_X5_run wIN_RX5 wCO_X5_run
theorem gS_RX5_92 : GoodIn wsL_law (va_wsS RX5 92 yX5_lost (wsU yX5_lost cX5_lost 0 (some .long))) := goodS wML_RX5_92 wST_X5_lost wIN_RX5 wCO_X5_lost
theorem gV_RL_49 : GoodIn wsL_law (wsV RL 49 RX5 yX5_proving (wsU yX5_proving cX5_proving 2 (some .int))) := goodV wML_RL_49 wIM_X5_proving wSE_X5_proving wIN_RX5 wCO_X5_proving
theorem gV_RX5_166 : GoodIn wsL_law (wsV RX5 166 RX5 yX5_isGood (wsU yX5_isGood cX5_isGood 6 (some .boolean))) := goodV wML_RX5_166 wIM_X5_isGood wSE_X5_isGood wIN_RX5 wCO_X5_isGood
theorem gV_RL_53 : GoodIn wsL_law (wsV RL 53 RX5 yX5_accept (wsU yX5_accept cX5_accept 6 (some .int))) := goodV wML_RL_53 wIM_X5_accept wSE_X5_accept wIN_RX5 wCO_X5_accept
theorem gS_RX5_172 : GoodIn wsL_law (va_wsS RX5 172 yX5_rounded (wsU yX5_rounded cX5_rounded 4 (some .long))) := goodS wML_RX5_172 wST_X5_rounded wIN_RX5 wCO_X5_rounded
theorem gV_RL_57 : GoodIn wsL_law (wsV RL 57 RX5 yX5_ticket (wsU yX5_ticket cX5_ticket 5 (some .int))) := goodV wML_RL_57 wIM_X5_ticket wSE_X5_ticket wIN_RX5 wCO_X5_ticket
theorem gV_RX5_181 : GoodIn wsL_law (wsV RX5 181 RX5 yX5_isShut (wsU yX5_isShut cX5_isShut 2 (some .boolean))) := goodV wML_RX5_181 wIM_X5_isShut wSE_X5_isShut wIN_RX5 wCO_X5_isShut
theorem gV_RX5_184 : GoodIn wsL_law (wsV RX5 184 RX5 yX5_add (wsU yX5_add cX5_add 7 (some .int))) := goodV wML_RX5_184 wIM_X5_add wSE_X5_add wIN_RX5 wCO_X5_add
theorem gV_RL_61 : GoodIn wsL_law (wsV RL 61 RX5 yX5_right (wsU yX5_right cX5_right 3 (some .int))) := goodV wML_RL_61 wIM_X5_right wSE_X5_right wIN_RX5 wCO_X5_right
theorem gV_RX5_188 : GoodIn wsL_law (wsV RX5 188 RX5 yX5_noTicket (wsU yX5_noTicket cX5_noTicket 2 (some .boolean))) := goodV wML_RX5_188 wIM_X5_noTicket wSE_X5_noTicket wIN_RX5 wCO_X5_noTicket
theorem gV_RL_65 : GoodIn wsL_law (wsV RL 65 RX5 yX5_remake (wsU yX5_remake cX5_remake 8 (some .int))) := goodV wML_RL_65 wIM_X5_remake wSE_X5_remake wIN_RX5 wCO_X5_remake
theorem gS_RX5_191 : GoodIn wsL_law (va_wsS RX5 191 yX5_areDays (wsU yX5_areDays cX5_areDays 2 (some .boolean))) := goodS wML_RX5_191 wST_X5_areDays wIN_RX5 wCO_X5_areDays
theorem gV_RX5_195 : GoodIn wsL_law (wsV RX5 195 RX5 yX5_isStale (wsU yX5_isStale cX5_isStale 5 (some .boolean))) := goodV wML_RX5_195 wIM_X5_isStale wSE_X5_isStale wIN_RX5 wCO_X5_isStale
theorem gV_RL_69 : GoodIn wsL_law (wsV RL 69 RX5 yX5_ticketed (wsU yX5_ticketed cX5_ticketed 3 (some .int))) := goodV wML_RL_69 wIM_X5_ticketed wSE_X5_ticketed wIN_RX5 wCO_X5_ticketed
theorem gV_RL_74 : GoodIn wsL_law (wsV RL 74 RX5 yX5_volume (wsU yX5_volume cX5_volume 2 (some .long))) := goodV wML_RL_74 wIM_X5_volume wSE_X5_volume wIN_RX5 wCO_X5_volume
theorem gV_RX5_201 : GoodIn wsL_law (wsV RX5 201 RX5 yX5_volumeOf (wsU yX5_volumeOf cX5_volumeOf 2 (some .long))) := goodV wML_RX5_201 wIM_X5_volumeOf wSE_X5_volumeOf wIN_RX5 wCO_X5_volumeOf
theorem gV_RL_78 : GoodIn wsL_law (wsV RL 78 RX5 yX5_sum (wsU yX5_sum cX5_sum 4 (some .long))) := goodV wML_RL_78 wIM_X5_sum wSE_X5_sum wIN_RX5 wCO_X5_sum
theorem gV_RX5_205 : GoodIn wsL_law (wsV RX5 205 RX5 yX5_sumOf (wsU yX5_sumOf cX5_sumOf 7 (some .long))) := goodV wML_RX5_205 wIM_X5_sumOf wSE_X5_sumOf wIN_RX5 wCO_X5_sumOf
theorem gV_RL_82 : GoodIn wsL_law (wsV RL 82 RX5 yX5_shut (wsU yX5_shut cX5_shut 3 (some .int))) := goodV wML_RL_82 wIM_X5_shut wSE_X5_shut wIN_RX5 wCO_X5_shut
theorem gV_RL_86 : GoodIn wsL_law (wsV RL 86 RX5 yX5_line (wsU yX5_line cX5_line 5 (some .int))) := goodV wML_RL_86 wIM_X5_line wSE_X5_line wIN_RX5 wCO_X5_line
theorem gS_RX5_209 : GoodIn wsL_law (va_wsS RX5 209 yX5_noLine (wsU yX5_noLine cX5_noLine 1 (some .boolean))) := goodS wML_RX5_209 wST_X5_noLine wIN_RX5 wCO_X5_noLine
theorem gV_RL_90 : GoodIn wsL_law (wsV RL 90 RX5 yX5_lined (wsU yX5_lined cX5_lined 3 (some .int))) := goodV wML_RL_90 wIM_X5_lined wSE_X5_lined wIN_RX5 wCO_X5_lined
theorem gV_RL_94 : GoodIn wsL_law (wsV RL 94 RX5 yX5_end (wsU yX5_end cX5_end 4 (some .int))) := goodV wML_RL_94 wIM_X5_end wSE_X5_end wIN_RX5 wCO_X5_end
theorem gV_RL_99 : GoodIn wsL_law (wsV RL 99 RX5 yX5_balance (wsU yX5_balance cX5_balance 5 (some .long))) := goodV wML_RL_99 wIM_X5_balance wSE_X5_balance wIN_RX5 wCO_X5_balance
theorem gV_RX5_216 : GoodIn wsL_law (wsV RX5 216 RX5 yX5_imbalance (wsU yX5_imbalance cX5_imbalance 7 (some .long))) := goodV wML_RX5_216 wIM_X5_imbalance wSE_X5_imbalance wIN_RX5 wCO_X5_imbalance
theorem gV_RX5_219 : GoodIn wsL_law (wsV RX5 219 RX5 yX5_endsOf (wsU yX5_endsOf cX5_endsOf 7 (some .long))) := goodV wML_RX5_219 wIM_X5_endsOf wSE_X5_endsOf wIN_RX5 wCO_X5_endsOf
theorem gV_RL_103 : GoodIn wsL_law (wsV RL 103 RX5 yX5_beyond (wsU yX5_beyond cX5_beyond 3 (some .int))) := goodV wML_RL_103 wIM_X5_beyond wSE_X5_beyond wIN_RX5 wCO_X5_beyond
theorem gV_RX5_222 : GoodIn wsL_law (wsV RX5 222 RX5 yX5_beyondOf (wsU yX5_beyondOf cX5_beyondOf 7 (some .int))) := goodV wML_RX5_222 wIM_X5_beyondOf wSE_X5_beyondOf wIN_RX5 wCO_X5_beyondOf
theorem gV_RL_107 : GoodIn wsL_law (wsV RL 107 RX5 yX5_explains (wsU yX5_explains cX5_explains 18 (some .long))) := goodV wML_RL_107 wIM_X5_explains wSE_X5_explains wIN_RX5 wCO_X5_explains
theorem gV_RL_111 : GoodIn wsL_law (wsV RL 111 RX5 yX5_sheet (wsU yX5_sheet cX5_sheet 5 (some .int))) := goodV wML_RL_111 wIM_X5_sheet wSE_X5_sheet wIN_RX5 wCO_X5_sheet
theorem gS_RX5_230 : GoodIn wsL_law (va_wsS RX5 230 yX5_noSheet (wsU yX5_noSheet cX5_noSheet 1 (some .boolean))) := goodS wML_RX5_230 wST_X5_noSheet wIN_RX5 wCO_X5_noSheet
theorem gV_RX5_233 : GoodIn wsL_law (wsV RX5 233 RX5 yX5_refused (wsU yX5_refused cX5_refused 2 (some .int))) := goodV wML_RX5_233 wIM_X5_refused wSE_X5_refused wIN_RX5 wCO_X5_refused
theorem gV_RX5_237 : GoodIn wsL_law (wsV RX5 237 RX5 yX5_failed (wsU yX5_failed cX5_failed 2 (some .int))) := goodV wML_RX5_237 wIM_X5_failed wSE_X5_failed wIN_RX5 wCO_X5_failed
theorem gV_RL_115 : GoodIn wsL_law (wsV RL 115 RX5 yX5_lose (wsU yX5_lose cX5_lose 3 (some .int))) := goodV wML_RL_115 wIM_X5_lose wSE_X5_lose wIN_RX5 wCO_X5_lose
theorem gV_RL_119 : GoodIn wsL_law (wsV RL 119 RX5 yX5_put (wsU yX5_put cX5_put 4 (some .int))) := goodV wML_RL_119 wIM_X5_put wSE_X5_put wIN_RX5 wCO_X5_put
theorem gV_RX5_240 : GoodIn wsL_law (wsV RX5 240 RX5 yX5_noCell (wsU yX5_noCell cX5_noCell 3 (some .int))) := goodV wML_RX5_240 wIM_X5_noCell wSE_X5_noCell wIN_RX5 wCO_X5_noCell
theorem gV_RL_123 : GoodIn wsL_law (wsV RL 123 RX5 yX5_cell (wsU yX5_cell cX5_cell 4 (some .long))) := goodV wML_RL_123 wIM_X5_cell wSE_X5_cell wIN_RX5 wCO_X5_cell
theorem gV_RX5_243 : GoodIn wsL_law (wsV RX5 243 RX5 yX5_failedLong (wsU yX5_failedLong cX5_failedLong 2 (some .long))) := goodV wML_RX5_243 wIM_X5_failedLong wSE_X5_failedLong wIN_RX5 wCO_X5_failedLong
theorem gV_RL_128 : GoodIn wsL_law (wsV RL 128 RX5 yX5_copy (wsU yX5_copy cX5_copy 7 (some .int))) := goodV wML_RL_128 wIM_X5_copy wSE_X5_copy wIN_RX5 wCO_X5_copy
theorem gS_RX5_246 : GoodIn wsL_law (va_wsS RX5 246 yX5_isBeyond (wsU yX5_isBeyond cX5_isBeyond 3 (some .boolean))) := goodS wML_RX5_246 wST_X5_isBeyond wIN_RX5 wCO_X5_isBeyond
theorem gV_RL_132 : GoodIn wsL_law (wsV RL 132 RX5 yX5_watch (wsU yX5_watch cX5_watch 14 (some .int))) := goodV wML_RL_132 wIM_X5_watch wSE_X5_watch wIN_RX5 wCO_X5_watch
theorem gV_RL_136 : GoodIn wsL_law (wsV RL 136 RX5 yX5_tell (wsU yX5_tell cX5_tell 2 (some .int))) := goodV wML_RL_136 wIM_X5_tell wSE_X5_tell wIN_RX5 wCO_X5_tell
theorem gV_RX5_253 : GoodIn wsL_law (wsV RX5 253 RX5 yX5_traced (wsU yX5_traced cX5_traced 2 none)) := goodV wML_RX5_253 wIM_X5_traced wSE_X5_traced wIN_RX5 wCO_X5_traced
theorem gV_RL_140 : GoodIn wsL_law (wsV RL 140 RX5 yX5_worth (wsU yX5_worth cX5_worth 4 (some .int))) := goodV wML_RL_140 wIM_X5_worth wSE_X5_worth wIN_RX5 wCO_X5_worth
theorem gV_RL_144 : GoodIn wsL_law (wsV RL 144 RX5 yX5_as (wsU yX5_as cX5_as 3 (some .int))) := goodV wML_RL_144 wIM_X5_as wSE_X5_as wIN_RX5 wCO_X5_as
theorem gV_RL_149 : GoodIn wsL_law (wsV RL 149 RX5 yX5_trace (wsU yX5_trace cX5_trace 1 (some .int))) := goodV wML_RL_149 wIM_X5_trace wSE_X5_trace wIN_RX5 wCO_X5_trace
theorem gV_RL_153 : GoodIn wsL_law (wsV RL 153 RX5 yX5_fault (wsU yX5_fault cX5_fault 1 (some .int))) := goodV wML_RL_153 wIM_X5_fault wSE_X5_fault wIN_RX5 wCO_X5_fault
theorem gV_RL_157 : GoodIn wsL_law (wsV RL 157 RX5 yX5_told (wsU yX5_told cX5_told 4 (some .int))) := goodV wML_RL_157 wIM_X5_told wSE_X5_told wIN_RX5 wCO_X5_told
section XLEN
variable {p : Program} {l : Launch} {e : Env} {R : Room} {s : State} {m : MethodId} {args : Array Value} {below : List Frame} {meth : Method} {c : Code} {H : Heap} {locs : List Loc} {cells slots : Nat} {Q : State → Prop}
variable {cc : ByteArray} {nL pc : Nat} {ls : Array Slot} {rest : List Value} {D : va_G} {G : Gc} {own : String} {M T : Nat} {ad : Nat → Nat → Nat} {d : Dt}
theorem xlen7 (S : CallFix p m c cc nL s args wsL_law own) (hK : va_K D vwCl (tysG G) s) (hX : PIC D (XF G M T ad) (XN M T) ad d H) {i : Nat} (hi : i < 4) (hdg : decode cc pc = .ok (.arraylength, 1)) (kk : W p l e R s m args below meth c H locs cells slots Q (F0 m (pc + 1) ls (.int 60 :: rest))) : W p l e R s m args below meth c H locs cells slots Q (F0 m pc ls (.ref (ad 7 i) :: rest)) := by
  have h1 : H[ad 7 i]? = some (arrV G.1 60 (fun j => .int (d.1 7 i j))) := hX.1 7 i hi
  exact W.alen (n := 60) S.1 S.2.1 h1 ((hK.2 0 _ rfl).1 60 (fun j => .int (d.1 7 i j))) (by rw [arrV_size]; rfl) rfl rfl hdg kk
end XLEN
end
section
noncomputable def sp_X4_isWithin (p0 : Int32) (p1 : Int32) (p2 : Int32) : Prop :=
  cif (p0.toInt < p1.toInt) (False) (cif (p2.toInt < p0.toInt) (False) (True))
noncomputable def sp_X4_isDay (p0 : Int32) : Prop :=
  sp_X4_isWithin p0 0 400
noncomputable def sp_X4_isFlow (p0 : Int32) : Prop :=
  sp_X4_isWithin p0 1 10000
noncomputable def sp_X4_isLine (p0 : Int32) : Prop :=
  sp_X4_isWithin p0 0 3
noncomputable def sp_X4_isSheet (p0 : Int32) : Prop :=
  sp_X4_isWithin p0 0 3
noncomputable def sp_X4_isLane (p0 : Int32) : Prop :=
  sp_X4_isWithin p0 0 2
noncomputable def sp_X4_areDays (p0 : Int32) (p1 : Int32) : Prop :=
  cif (sp_X4_isDay p0) (cif (sp_X4_isDay p1) (cif (p1.toInt < p0.toInt) (False) (True)) (False)) (False)
noncomputable def sp_X4_rounded (p0 : Int64) (p2 : Int64) : Int64 :=
  cif (0 < p2.toInt) (((2 * p0) + p2) / (2 * p2)) (0)
noncomputable def sp_X0_isFull (d : Dt) (i : Nat) : Prop :=
  cif ((d.1 8 i 6).toInt < 12) (False) (True)
noncomputable def sp_X0_standsBehind (d : Dt) (i : Nat) (p1 : Int32) (p2 : Int32) (p3 : Int32) : Prop :=
  cif (p2.toInt < (d.1 10 i (ix p1)).toInt) (True) (cif ((d.1 10 i (ix p1)).toInt = p2.toInt) (cif ((d.1 11 i (ix p1)).toInt ≤ p3.toInt) (False) (True)) (False))
noncomputable def sp_X0_isOnCurve (d : Dt) (i : Nat) (p1 : Int32) (p2 : Int32) : Prop :=
  cif ((d.1 11 i (ix p1)).toInt ≤ p2.toInt) (cif ((d.1 8 i 6).toInt ≤ (p1 + 1).toInt) (True) (cif ((d.1 10 i (ix (p1 + 1))).toInt = (d.1 10 i (ix p1)).toInt) (cif ((d.1 11 i (ix (p1 + 1))).toInt ≤ p2.toInt) (False) (True)) (True))) (False)
noncomputable def sp_X0_between (d : Dt) (i : Nat) (p1 : Int32) (p2 : Int32) (p3 : Int32) : Int32 :=
  cif (((d.1 10 i (ix p2)) - (d.1 10 i (ix p1))).toInt = 0) (d.1 12 i (ix p1)) ((d.1 12 i (ix p1)) + ((((d.1 12 i (ix p2)) - (d.1 12 i (ix p1))) * (p3 - (d.1 10 i (ix p1)))) / ((d.1 10 i (ix p2)) - (d.1 10 i (ix p1)))))
noncomputable def st_X0_curveSize_4 (d : Dt) (i : Nat) (p1 : Int32) (rec4 : Int32 → Int32 → Int32) (x3 : Int32) (x2 : Int32) : Int32 :=
  cif ((d.1 8 i 6).toInt ≤ x3.toInt) (x2) (cif (sp_X0_isOnCurve d i x3 p1) (rec4 (x3 + 1) (x2 + 1)) (rec4 (x3 + 1) (x2 + 0)))
noncomputable def lp_X0_curveSize_4 (d : Dt) (i : Nat) (p1 : Int32) : Nat → Int32 → Int32 → Int32
  | 0 => fun _ _ => 0
  | n + 1 => fun x3 x2 => st_X0_curveSize_4 d i p1 (lp_X0_curveSize_4 d i p1 n) x3 x2
noncomputable def sp_X0_curveSize (d : Dt) (i : Nat) (p1 : Int32) : Int32 :=
  lp_X0_curveSize_4 d i p1 16 0 0
noncomputable def sp_X3_isReplaced (d : Dt) (i : Nat) : Prop :=
  cif ((d.1 13 i 6).toInt = (-9)) (False) (True)
noncomputable def st_X0_curvePlace_5 (d : Dt) (i : Nat) (p1 : Int32) (p2 : Int32) (rec5 : Int32 → Int32 → Int32) (x4 : Int32) (x3 : Int32) : Int32 :=
  cif ((d.1 8 i 6).toInt ≤ x4.toInt) ((-9)) (cif (sp_X0_isOnCurve d i x4 p1) (cif (x3.toInt = p2.toInt) (x4) (rec5 (x4 + 1) (x3 + 1))) (rec5 (x4 + 1) x3))
noncomputable def lp_X0_curvePlace_5 (d : Dt) (i : Nat) (p1 : Int32) (p2 : Int32) : Nat → Int32 → Int32 → Int32
  | 0 => fun _ _ => 0
  | n + 1 => fun x4 x3 => st_X0_curvePlace_5 d i p1 p2 (lp_X0_curvePlace_5 d i p1 p2 n) x4 x3
noncomputable def sp_X0_curvePlace (d : Dt) (i : Nat) (p1 : Int32) (p2 : Int32) : Int32 :=
  lp_X0_curvePlace_5 d i p1 p2 16 0 0
noncomputable def st_X0_factorAt_10 (d : Dt) (i : Nat) (p1 : Int32) (p2 : Int32) (rec10 : Int32 → Int32 → Int32 → Int32) (x5 : Int32) (x4 : Int32) (x3 : Int32) : Int32 :=
  cif ((d.1 8 i 6).toInt ≤ x5.toInt) (cif (x3.toInt = (-9)) (cif (x4.toInt = (-9)) (100000) (d.1 12 i (ix x4))) (cif (x4.toInt = (-9)) (d.1 12 i (ix x3)) (sp_X0_between d i x3 x4 p1))) (cif (sp_X0_isOnCurve d i x5 p2) (cif (p1.toInt < (d.1 10 i (ix x5)).toInt) (cif ((d.1 10 i (ix x5)).toInt < p1.toInt) (rec10 (x5 + 1) x4 x3) (cif (x4.toInt = (-9)) (rec10 (x5 + 1) x5 x3) (rec10 (x5 + 1) x4 x3))) (cif ((d.1 10 i (ix x5)).toInt < p1.toInt) (rec10 (x5 + 1) x4 x5) (cif (x4.toInt = (-9)) (rec10 (x5 + 1) x5 x5) (rec10 (x5 + 1) x4 x5)))) (rec10 (x5 + 1) x4 x3))
noncomputable def lp_X0_factorAt_10 (d : Dt) (i : Nat) (p1 : Int32) (p2 : Int32) : Nat → Int32 → Int32 → Int32 → Int32
  | 0 => fun _ _ _ => 0
  | n + 1 => fun x5 x4 x3 => st_X0_factorAt_10 d i p1 p2 (lp_X0_factorAt_10 d i p1 p2 n) x5 x4 x3
noncomputable def sp_X0_factorAt (d : Dt) (i : Nat) (p1 : Int32) (p2 : Int32) : Int32 :=
  lp_X0_factorAt_10 d i p1 p2 16 0 (-9) (-9)
noncomputable def st_X1_isGood_32 (d : Dt) (rec32 : Int32 → Int64 → Int64 → Prop) (x5 : Int32) (x3 : Int64) (x1 : Int64) : Prop :=
  cif ((d.1 2 0 5).toInt ≤ x5.toInt) (cif (x1.toInt ≤ 0) (False) (cif (x1.toInt < (2000 * (x3 - x1)).toInt) (False) (True))) (rec32 (x5 + 1) (if (d.2 3 0 (ix x5)) < x3 then x3 else (d.2 3 0 (ix x5))) (if (d.2 3 0 (ix x5)) < x1 then (d.2 3 0 (ix x5)) else x1))
noncomputable def lp_X1_isGood_32 (d : Dt) : Nat → Int32 → Int64 → Int64 → Prop
  | 0 => fun _ _ _ => False
  | n + 1 => fun x5 x3 x1 => st_X1_isGood_32 d (lp_X1_isGood_32 d n) x5 x3 x1
noncomputable def sp_X1_isGood (d : Dt) : Prop :=
  cif (5 ≤ (d.1 2 0 5).toInt) (lp_X1_isGood_32 d 16 ((d.1 2 0 5) - 5) (d.2 3 0 (ix ((d.1 2 0 5) - 1))) (d.2 3 0 (ix ((d.1 2 0 5) - 1)))) (False)
noncomputable def st_X1_factorOf_14 (d : Dt) (p1 : Int32) (rec14 : Int32 → Int64 → Int64) (x4 : Int32) (x2 : Int64) : Int64 :=
  cif ((d.1 2 0 5).toInt ≤ x4.toInt) (sp_X4_rounded ((500 * ((d.1 2 0 3).toInt64)) * p1.toInt64) x2) (rec14 (x4 + 1) (x2 + (d.2 3 0 (ix x4))))
noncomputable def lp_X1_factorOf_14 (d : Dt) (p1 : Int32) : Nat → Int32 → Int64 → Int64
  | 0 => fun _ _ => 0
  | n + 1 => fun x4 x2 => st_X1_factorOf_14 d p1 (lp_X1_factorOf_14 d p1 n) x4 x2
noncomputable def sp_X1_factorOf (d : Dt) (p1 : Int32) : Int64 :=
  lp_X1_factorOf_14 d p1 16 (if (0 : Int32) < ((d.1 2 0 5) - 5) then ((d.1 2 0 5) - 5) else 0) 0
noncomputable def sp_X2_hasCell (d : Dt) (i : Nat) (p1 : Int32) : Prop :=
  sp_X4_isWithin p1 0 ((d.1 6 i 3) - 1)
noncomputable def sp_X2_hasCells (d : Dt) (i : Nat) (p1 : Int32) (p2 : Int32) : Prop :=
  cif (sp_X4_isWithin p1 0 (d.1 6 i 3)) (cif (sp_X4_isWithin p2 0 ((d.1 6 i 3) - p1)) (True) (False)) (False)
noncomputable def sp_X3_counts (d : Dt) (i : Nat) (p1 : Int32) (p2 : Int32) (p3 : Int32) : Prop :=
  cif ((d.1 13 i 0).toInt = p1.toInt) (cif (sp_X4_isWithin (d.1 13 i 1) p2 p3) (cif (sp_X3_isReplaced d i) (False) (True)) (False)) (False)
noncomputable def st_X2_watched_18 (d : Dt) (i : Nat) (p1 : Int32) (p2 : Int32) (p3 : Int32) (rec18 : Int32 → Int32 → Int32 → Int32 → Int32 → Int32 → Int32) (x9 : Int32) (x8 : Int32) (x7 : Int32) (x6 : Int32) (x5 : Int32) (x4 : Int32) : Int32 :=
  cif ((p1 + p2).toInt ≤ x9.toInt) (cif (p3.toInt = 0) (x4) (cif (p3.toInt = 1) (x5) (cif (p3.toInt = 2) (x6) ((x4 + x5) - x6)))) (cif ((d.1 7 i (ix x9)).toInt = 1) (cif ((d.1 7 i (ix x9)).toInt = x8.toInt) (cif (((x7 + 1) - (x7 + 1) / 2 * 2).toInt = 1) (rec18 (x9 + 1) (d.1 7 i (ix x9)) (x7 + 1) x6 (x5 + 1) (x4 + 1)) (cif ((x7 + 1).toInt ≤ 0) (rec18 (x9 + 1) (d.1 7 i (ix x9)) (x7 + 1) x6 x5 (x4 + 1)) (rec18 (x9 + 1) (d.1 7 i (ix x9)) (x7 + 1) (x6 + 1) x5 (x4 + 1)))) (rec18 (x9 + 1) (d.1 7 i (ix x9)) 0 x6 x5 (x4 + 1))) (cif ((d.1 7 i (ix x9)).toInt = 2) (cif ((d.1 7 i (ix x9)).toInt = x8.toInt) (cif (((x7 + 1) - (x7 + 1) / 2 * 2).toInt = 1) (rec18 (x9 + 1) (d.1 7 i (ix x9)) (x7 + 1) x6 (x5 + 1) (x4 + 1)) (cif ((x7 + 1).toInt ≤ 0) (rec18 (x9 + 1) (d.1 7 i (ix x9)) (x7 + 1) x6 x5 (x4 + 1)) (rec18 (x9 + 1) (d.1 7 i (ix x9)) (x7 + 1) (x6 + 1) x5 (x4 + 1)))) (rec18 (x9 + 1) (d.1 7 i (ix x9)) 0 x6 x5 (x4 + 1))) (rec18 (x9 + 1) x8 x7 x6 x5 x4)))
noncomputable def lp_X2_watched_18 (d : Dt) (i : Nat) (p1 : Int32) (p2 : Int32) (p3 : Int32) : Nat → Int32 → Int32 → Int32 → Int32 → Int32 → Int32 → Int32
  | 0 => fun _ _ _ _ _ _ => 0
  | n + 1 => fun x9 x8 x7 x6 x5 x4 => st_X2_watched_18 d i p1 p2 p3 (lp_X2_watched_18 d i p1 p2 p3 n) x9 x8 x7 x6 x5 x4
noncomputable def sp_X2_watched (d : Dt) (i : Nat) (p1 : Int32) (p2 : Int32) (p3 : Int32) : Int32 :=
  lp_X2_watched_18 d i p1 p2 p3 64 p1 0 0 0 0 0
noncomputable def st_X0_takeFactor_6 (d : Dt) (i : Nat) (p1 : Int32) (p2 : Int32) (p3 : Int32) (rec6 : Int32 → Dt → Dt) (x4 : Int32) (e6 : Dt) : Dt :=
  cif (x4.toInt ≤ 0) (uv (uv (uv (uv e6 10 i (ix x4) p1) 11 i (ix x4) p2) 12 i (ix x4) p3) 8 i 6 ((e6.1 8 i 6) + 1)) (cif (sp_X0_standsBehind e6 i (x4 - 1) p1 p2) (rec6 (x4 + (-1)) (uv (uv (uv e6 10 i (ix x4) (e6.1 10 i (ix (x4 - 1)))) 11 i (ix x4) (e6.1 11 i (ix (x4 - 1)))) 12 i (ix x4) (e6.1 12 i (ix (x4 - 1))))) (uv (uv (uv (uv e6 10 i (ix x4) p1) 11 i (ix x4) p2) 12 i (ix x4) p3) 8 i 6 ((e6.1 8 i 6) + 1)))
noncomputable def lp_X0_takeFactor_6 (d : Dt) (i : Nat) (p1 : Int32) (p2 : Int32) (p3 : Int32) : Nat → Int32 → Dt → Dt
  | 0 => fun _ e6 => e6
  | n + 1 => fun x4 e6 => st_X0_takeFactor_6 d i p1 p2 p3 (lp_X0_takeFactor_6 d i p1 p2 p3 n) x4 e6
noncomputable def sp_X0_takeFactor (d : Dt) (i : Nat) (p1 : Int32) (p2 : Int32) (p3 : Int32) : Dt :=
  lp_X0_takeFactor_6 d i p1 p2 p3 16 (d.1 8 i 6) d
noncomputable def sp_X2_faultAs (d : Dt) (i : Nat) (p1 : Int32) : Int32 :=
  cif ((d.1 6 i 1).toInt = 0) (1) (cif ((d.1 6 i 2).toInt = p1.toInt) (0) (2))
noncomputable def sp_X2_fillIn (d : Dt) (i : Nat) (p1 : Int32) (p2 : Int32) : Dt :=
  cif ((d.1 6 i 2).toInt = 0) (uv d 7 i (ix p1) p2.toInt8.toInt32) (cif ((d.1 6 i 2).toInt = 1) (uv d 7 i (ix p1) p2.toInt16.toInt32) (uv d 7 i (ix p1) p2))
noncomputable def sp_X1_begin (d : Dt) (p1 : Int32) (p2 : Int32) (p3 : Int32) : Dt :=
  uv (uv (uv (uv (uv d 2 0 0 1) 2 0 1 p1) 2 0 2 p2) 2 0 3 p3) 2 0 5 0
noncomputable def st_J7_fill_53178_5 (d : Dt) (t0 : Nat) (p1 : Int32) (rec5 : Int32 → Dt → Dt) (x2 : Int32) (e5 : Dt) : Dt :=
  cif (60 ≤ x2.toInt) (e5) (rec5 (x2 + 1) (uv e5 7 t0 (ix x2) p1))
noncomputable def lp_J7_fill_53178_5 (d : Dt) (t0 : Nat) (p1 : Int32) : Nat → Int32 → Dt → Dt
  | 0 => fun _ e5 => e5
  | n + 1 => fun x2 e5 => st_J7_fill_53178_5 d t0 p1 (lp_J7_fill_53178_5 d t0 p1 n) x2 e5
noncomputable def sp_J7_fill_53178 (d : Dt) (t0 : Nat) (p1 : Int32) : Dt :=
  lp_J7_fill_53178_5 d t0 p1 64 0 d
noncomputable def sp_X2_renew (d : Dt) (i : Nat) (p1 : Int32) (p2 : Int32) : Dt :=
  uv (uv (uv (sp_J7_fill_53178 d i 0) 6 i 1 1) 6 i 2 p1) 6 i 3 p2
end
section
theorem mx0 {x : Int32} (h : 0 ≤ x.toInt) : (if (0 : Int32) < x then x else 0).toInt = x.toInt := by
  split
  · rfl
  · rename_i c
    rw [Int32.lt_iff_toInt_lt, Int32.toInt_zero] at c
    rw [Int32.toInt_zero]
    omega
end
section
set_option maxRecDepth 100000 in
set_option maxHeartbeats 8000000 in
theorem c_X4_isWithin (l : Launch) (p0 : Int32) (p1 : Int32) (p2 : Int32) : Met l yX4_isWithin (wsU yX4_isWithin cX4_isWithin 3 (some .boolean)) ({ frames := 0, cells := 0, slots := 0, locals := 0 } : Room) (va_Pc [.int p0, .int p1, .int p2] (fun _ => True)) (qV (some (.int (b2i (sp_X4_isWithin p0 p1 p2))))) 0 0 (fun _ => False) := by
  refine ent (by decide +kernel) (Nat.le_of_ble_eq_true rfl) ?_
  intro p e s m below meth c S hr hlk hpre ls hl
  have S : CallFix p m c cX4_isWithin 3 s [.int p0, .int p1, .int p2].toArray wsL_law RX4 := S
  have hl : lv_has ls 3 [(0, .int p0), (1, .int p1), (2, .int p2)] := hl
  have hs := sp_X4_isWithin.eq_1 p0 p1 p2
  refine lv_iload_n S.1 S.2.1 dX4_isWithin_0 rfl (lv_at hl 0 rfl) ?_
  refine lv_iload_n S.1 S.2.1 dX4_isWithin_1 rfl (lv_at hl 1 rfl) ?_
  refine q_icmp_lt (tgt := 14) (xi := p0.toInt) (yi := p1.toInt) S rfl rfl dX4_isWithin_2 (by decide) (fun c1 => ?_) (fun c1 => ?_)
  · have hs := hs.trans (cif_t c1)
    refine lv_iconst (v := 0) S.1 S.2.1 dX4_isWithin_14 (by decide) ?_
    exact rZ S hr hlk hs b2i_F.symm dX4_isWithin_15
  · have hs := hs.trans (cif_f c1)
    refine lv_iload_n S.1 S.2.1 dX4_isWithin_5 rfl (lv_at hl 0 rfl) ?_
    refine lv_iload_n S.1 S.2.1 dX4_isWithin_6 rfl (lv_at hl 2 rfl) ?_
    refine q_icmp_gt (tgt := 14) (xi := p0.toInt) (yi := p2.toInt) S rfl rfl dX4_isWithin_7 (by decide) (fun c2 => ?_) (fun c2 => ?_)
    · have hs := hs.trans (cif_t c2)
      refine lv_iconst (v := 0) S.1 S.2.1 dX4_isWithin_14 (by decide) ?_
      exact rZ S hr hlk hs b2i_F.symm dX4_isWithin_15
    · have hs := hs.trans (cif_f c2)
      refine lv_iconst (v := 1) S.1 S.2.1 dX4_isWithin_10 (by decide) ?_
      refine lv_goto (tgt := 15) S.1 S.2.1 dX4_isWithin_11 (by decide) ?_
      exact rZ S hr hlk hs b2i_T.symm dX4_isWithin_15
set_option maxRecDepth 100000 in
set_option maxHeartbeats 8000000 in
theorem c_X4_isDay (l : Launch) (p0 : Int32) : Met l yX4_isDay (wsU yX4_isDay cX4_isDay 1 (some .boolean)) ({ frames := 1, cells := 0, slots := 0, locals := 22 } : Room) (va_Pc [.int p0] (fun _ => True)) (qV (some (.int (b2i (sp_X4_isDay p0))))) 0 0 (fun _ => False) := by
  refine ent (by decide +kernel) (Nat.le_of_ble_eq_true rfl) ?_
  intro p e s m below meth c S hr hlk hpre ls hl
  have S : CallFix p m c cX4_isDay 1 s [.int p0].toArray wsL_law RX4 := S
  have hl : lv_has ls 1 [(0, .int p0)] := hl
  have hs := sp_X4_isDay.eq_1 p0
  refine lv_iload_n S.1 S.2.1 dX4_isDay_0 rfl (lv_at hl 0 rfl) ?_
  refine lv_iconst (v := 0) S.1 S.2.1 dX4_isDay_1 (by decide) ?_
  refine lv_sipush (v := 400) S.1 S.2.1 dX4_isDay_2 (by decide) ?_
  refine cPS (rest := []) S (c_X4_isWithin l p0 0 400) gS_RX4_54 ds_X4_isWithin.2 ⟨rfl, rfl⟩ ⟨Nat.le_of_ble_eq_true rfl, Nat.le_of_ble_eq_true rfl⟩ rfl hl.1 rfl (Nat.le_of_ble_eq_true rfl) ⟨Nat.le_of_ble_eq_true rfl, Nat.le_of_ble_eq_true rfl⟩ dX4_isDay_5 ?_
  exact rZ S hr hlk hs rfl dX4_isDay_8
set_option maxRecDepth 100000 in
set_option maxHeartbeats 8000000 in
theorem c_X4_isFlow (l : Launch) (p0 : Int32) : Met l yX4_isFlow (wsU yX4_isFlow cX4_isFlow 1 (some .boolean)) ({ frames := 1, cells := 0, slots := 0, locals := 22 } : Room) (va_Pc [.int p0] (fun _ => True)) (qV (some (.int (b2i (sp_X4_isFlow p0))))) 0 0 (fun _ => False) := by
  refine ent (by decide +kernel) (Nat.le_of_ble_eq_true rfl) ?_
  intro p e s m below meth c S hr hlk hpre ls hl
  have S : CallFix p m c cX4_isFlow 1 s [.int p0].toArray wsL_law RX4 := S
  have hl : lv_has ls 1 [(0, .int p0)] := hl
  have hs := sp_X4_isFlow.eq_1 p0
  refine lv_iload_n S.1 S.2.1 dX4_isFlow_0 rfl (lv_at hl 0 rfl) ?_
  refine lv_iconst (v := 1) S.1 S.2.1 dX4_isFlow_1 (by decide) ?_
  refine lv_sipush (v := 10000) S.1 S.2.1 dX4_isFlow_2 (by decide) ?_
  refine cPS (rest := []) S (c_X4_isWithin l p0 1 10000) gS_RX4_54 ds_X4_isWithin.2 ⟨rfl, rfl⟩ ⟨Nat.le_of_ble_eq_true rfl, Nat.le_of_ble_eq_true rfl⟩ rfl hl.1 rfl (Nat.le_of_ble_eq_true rfl) ⟨Nat.le_of_ble_eq_true rfl, Nat.le_of_ble_eq_true rfl⟩ dX4_isFlow_5 ?_
  exact rZ S hr hlk hs rfl dX4_isFlow_8
set_option maxRecDepth 100000 in
set_option maxHeartbeats 8000000 in
theorem c_X4_isLine (l : Launch) (p0 : Int32) : Met l yX4_isLine (wsU yX4_isLine cX4_isLine 1 (some .boolean)) ({ frames := 1, cells := 0, slots := 0, locals := 22 } : Room) (va_Pc [.int p0] (fun _ => True)) (qV (some (.int (b2i (sp_X4_isLine p0))))) 0 0 (fun _ => False) := by
  refine ent (by decide +kernel) (Nat.le_of_ble_eq_true rfl) ?_
  intro p e s m below meth c S hr hlk hpre ls hl
  have S : CallFix p m c cX4_isLine 1 s [.int p0].toArray wsL_law RX4 := S
  have hl : lv_has ls 1 [(0, .int p0)] := hl
  have hs := sp_X4_isLine.eq_1 p0
  refine lv_iload_n S.1 S.2.1 dX4_isLine_0 rfl (lv_at hl 0 rfl) ?_
  refine lv_iconst (v := 0) S.1 S.2.1 dX4_isLine_1 (by decide) ?_
  refine lv_iconst (v := 3) S.1 S.2.1 dX4_isLine_2 (by decide) ?_
  refine cPS (rest := []) S (c_X4_isWithin l p0 0 3) gS_RX4_54 ds_X4_isWithin.2 ⟨rfl, rfl⟩ ⟨Nat.le_of_ble_eq_true rfl, Nat.le_of_ble_eq_true rfl⟩ rfl hl.1 rfl (Nat.le_of_ble_eq_true rfl) ⟨Nat.le_of_ble_eq_true rfl, Nat.le_of_ble_eq_true rfl⟩ dX4_isLine_3 ?_
  exact rZ S hr hlk hs rfl dX4_isLine_6
set_option maxRecDepth 100000 in
set_option maxHeartbeats 8000000 in
theorem c_X4_isSheet (l : Launch) (p0 : Int32) : Met l yX4_isSheet (wsU yX4_isSheet cX4_isSheet 1 (some .boolean)) ({ frames := 1, cells := 0, slots := 0, locals := 22 } : Room) (va_Pc [.int p0] (fun _ => True)) (qV (some (.int (b2i (sp_X4_isSheet p0))))) 0 0 (fun _ => False) := by
  refine ent (by decide +kernel) (Nat.le_of_ble_eq_true rfl) ?_
  intro p e s m below meth c S hr hlk hpre ls hl
  have S : CallFix p m c cX4_isSheet 1 s [.int p0].toArray wsL_law RX4 := S
  have hl : lv_has ls 1 [(0, .int p0)] := hl
  have hs := sp_X4_isSheet.eq_1 p0
  refine lv_iload_n S.1 S.2.1 dX4_isSheet_0 rfl (lv_at hl 0 rfl) ?_
  refine lv_iconst (v := 0) S.1 S.2.1 dX4_isSheet_1 (by decide) ?_
  refine lv_iconst (v := 3) S.1 S.2.1 dX4_isSheet_2 (by decide) ?_
  refine cPS (rest := []) S (c_X4_isWithin l p0 0 3) gS_RX4_54 ds_X4_isWithin.2 ⟨rfl, rfl⟩ ⟨Nat.le_of_ble_eq_true rfl, Nat.le_of_ble_eq_true rfl⟩ rfl hl.1 rfl (Nat.le_of_ble_eq_true rfl) ⟨Nat.le_of_ble_eq_true rfl, Nat.le_of_ble_eq_true rfl⟩ dX4_isSheet_3 ?_
  exact rZ S hr hlk hs rfl dX4_isSheet_6
set_option maxRecDepth 100000 in
set_option maxHeartbeats 8000000 in
theorem c_X4_isLane (l : Launch) (p0 : Int32) : Met l yX4_isLane (wsU yX4_isLane cX4_isLane 1 (some .boolean)) ({ frames := 1, cells := 0, slots := 0, locals := 22 } : Room) (va_Pc [.int p0] (fun _ => True)) (qV (some (.int (b2i (sp_X4_isLane p0))))) 0 0 (fun _ => False) := by
  refine ent (by decide +kernel) (Nat.le_of_ble_eq_true rfl) ?_
  intro p e s m below meth c S hr hlk hpre ls hl
  have S : CallFix p m c cX4_isLane 1 s [.int p0].toArray wsL_law RX4 := S
  have hl : lv_has ls 1 [(0, .int p0)] := hl
  have hs := sp_X4_isLane.eq_1 p0
  refine lv_iload_n S.1 S.2.1 dX4_isLane_0 rfl (lv_at hl 0 rfl) ?_
  refine lv_iconst (v := 0) S.1 S.2.1 dX4_isLane_1 (by decide) ?_
  refine lv_iconst (v := 2) S.1 S.2.1 dX4_isLane_2 (by decide) ?_
  refine cPS (rest := []) S (c_X4_isWithin l p0 0 2) gS_RX4_54 ds_X4_isWithin.2 ⟨rfl, rfl⟩ ⟨Nat.le_of_ble_eq_true rfl, Nat.le_of_ble_eq_true rfl⟩ rfl hl.1 rfl (Nat.le_of_ble_eq_true rfl) ⟨Nat.le_of_ble_eq_true rfl, Nat.le_of_ble_eq_true rfl⟩ dX4_isLane_3 ?_
  exact rZ S hr hlk hs rfl dX4_isLane_6
set_option maxRecDepth 100000 in
set_option maxHeartbeats 8000000 in
theorem c_X4_areDays (l : Launch) (p0 : Int32) (p1 : Int32) : Met l yX4_areDays (wsU yX4_areDays cX4_areDays 2 (some .boolean)) ({ frames := 2, cells := 0, slots := 0, locals := 42 } : Room) (va_Pc [.int p0, .int p1] (fun _ => True)) (qV (some (.int (b2i (sp_X4_areDays p0 p1))))) 0 0 (fun _ => False) := by
  refine ent (by decide +kernel) (Nat.le_of_ble_eq_true rfl) ?_
  intro p e s m below meth c S hr hlk hpre ls hl
  have S : CallFix p m c cX4_areDays 2 s [.int p0, .int p1].toArray wsL_law RX4 := S
  have hl : lv_has ls 2 [(0, .int p0), (1, .int p1)] := hl
  have hs := sp_X4_areDays.eq_1 p0 p1
  refine lv_iload_n S.1 S.2.1 dX4_areDays_0 rfl (lv_at hl 0 rfl) ?_
  refine cPS (rest := []) S (c_X4_isDay l p0) gS_RX4_68 ds_X4_isDay.2 ⟨rfl, rfl⟩ ⟨Nat.le_of_ble_eq_true rfl, Nat.le_of_ble_eq_true rfl⟩ rfl hl.1 rfl (Nat.le_of_ble_eq_true rfl) ⟨Nat.le_of_ble_eq_true rfl, Nat.le_of_ble_eq_true rfl⟩ dX4_areDays_1 ?_
  refine q_if_eq_b (tgt := 23) S dX4_areDays_4 (by decide) (fun c1 => ?_) (fun c1 => ?_)
  · have hs := hs.trans (cif_f c1)
    refine lv_iconst (v := 0) S.1 S.2.1 dX4_areDays_23 (by decide) ?_
    exact rZ S hr hlk hs b2i_F.symm dX4_areDays_24
  · have hs := hs.trans (cif_t c1)
    refine lv_iload_n S.1 S.2.1 dX4_areDays_7 rfl (lv_at hl 1 rfl) ?_
    refine cPS (rest := []) S (c_X4_isDay l p1) gS_RX4_68 ds_X4_isDay.2 ⟨rfl, rfl⟩ ⟨Nat.le_of_ble_eq_true rfl, Nat.le_of_ble_eq_true rfl⟩ rfl hl.1 rfl (Nat.le_of_ble_eq_true rfl) ⟨Nat.le_of_ble_eq_true rfl, Nat.le_of_ble_eq_true rfl⟩ dX4_areDays_8 ?_
    refine q_if_eq_b (tgt := 23) S dX4_areDays_11 (by decide) (fun c2 => ?_) (fun c2 => ?_)
    · have hs := hs.trans (cif_f c2)
      refine lv_iconst (v := 0) S.1 S.2.1 dX4_areDays_23 (by decide) ?_
      exact rZ S hr hlk hs b2i_F.symm dX4_areDays_24
    · have hs := hs.trans (cif_t c2)
      refine lv_iload_n S.1 S.2.1 dX4_areDays_14 rfl (lv_at hl 0 rfl) ?_
      refine lv_iload_n S.1 S.2.1 dX4_areDays_15 rfl (lv_at hl 1 rfl) ?_
      refine q_icmp_gt (tgt := 23) (xi := p0.toInt) (yi := p1.toInt) S rfl rfl dX4_areDays_16 (by decide) (fun c3 => ?_) (fun c3 => ?_)
      · have hs := hs.trans (cif_t c3)
        refine lv_iconst (v := 0) S.1 S.2.1 dX4_areDays_23 (by decide) ?_
        exact rZ S hr hlk hs b2i_F.symm dX4_areDays_24
      · have hs := hs.trans (cif_f c3)
        refine lv_iconst (v := 1) S.1 S.2.1 dX4_areDays_19 (by decide) ?_
        refine lv_goto (tgt := 24) S.1 S.2.1 dX4_areDays_20 (by decide) ?_
        exact rZ S hr hlk hs b2i_T.symm dX4_areDays_24
set_option maxRecDepth 100000 in
set_option maxHeartbeats 8000000 in
theorem c_X4_rounded (l : Launch) (p0 : Int64) (p2 : Int64) : Met l yX4_rounded (wsU yX4_rounded cX4_rounded 4 (some .long)) ({ frames := 0, cells := 0, slots := 0, locals := 0 } : Room) (va_Pc [.long p0, .long p2] (fun _ => True)) (qV (some (.long (sp_X4_rounded p0 p2)))) 0 0 (fun _ => False) := by
  refine ent (by decide +kernel) (Nat.le_of_ble_eq_true rfl) ?_
  intro p e s m below meth c S hr hlk hpre ls hl
  have S : CallFix p m c cX4_rounded 4 s [.long p0, .long p2].toArray wsL_law RX4 := S
  have hl : lv_has ls 4 [(0, .long p0), (2, .long p2)] := hl
  have hs := sp_X4_rounded.eq_1 p0 p2
  refine lv_lload_n S.1 S.2.1 dX4_rounded_0 rfl (lv_at hl 1 rfl) ?_
  refine lv_lconst (v := 0) S.1 S.2.1 dX4_rounded_1 (by decide) ?_
  refine q_lcmp_gt (tgt := 8) (xi := p2.toInt) (yi := 0) S rfl rfl dX4_rounded_2 dX4_rounded_3 (by decide) (fun c1 => ?_) (fun c1 => ?_)
  · have hs := hs.trans (cif_t c1)
    refine lv_ldc2 S.1 S.2.1 S.2.2.2.1 (S.2.2.2.2 _ wKL_RX4_285) dX4_rounded_8 ?_
    refine lv_lload_n S.1 S.2.1 dX4_rounded_11 rfl (lv_at hl 0 rfl) ?_
    refine lv_lmul S.1 S.2.1 dX4_rounded_12 ?_
    refine lv_lload_n S.1 S.2.1 dX4_rounded_13 rfl (lv_at hl 1 rfl) ?_
    refine lv_ladd S.1 S.2.1 dX4_rounded_14 ?_
    refine lv_ldc2 S.1 S.2.1 S.2.2.2.1 (S.2.2.2.2 _ wKL_RX4_285) dX4_rounded_15 ?_
    refine lv_lload_n S.1 S.2.1 dX4_rounded_18 rfl (lv_at hl 1 rfl) ?_
    refine lv_lmul S.1 S.2.1 dX4_rounded_19 ?_
    refine lv_ldiv S.1 S.2.1 dX4_rounded_20 (nz2 (by omega)) ?_
    exact rL S hr hlk hs dX4_rounded_21
  · have hs := hs.trans (cif_f c1)
    refine lv_lconst (v := 0) S.1 S.2.1 dX4_rounded_6 (by decide) ?_
    exact rL S hr hlk hs dX4_rounded_7
set_option maxRecDepth 100000 in
set_option maxHeartbeats 8000000 in
theorem c_X0_isFull (l : Launch) (D : va_G) (G : Gc) (M T : Nat) (ad : Nat → Nat → Nat) (d : Dt) (i : Nat) (hi : i < M) : Met l yX0_isFull (wsU yX0_isFull cX0_isFull 1 (some .boolean)) ({ frames := 0, cells := 0, slots := 0, locals := 0 } : Room) (va_Pc [.ref (ad 8 i)] (XPre D (tysG G) (XF G M T ad) (XN M T) ad d)) (qV (some (.int (b2i (sp_X0_isFull d i))))) 0 0 (fun _ => False) := by
  refine ent (by decide +kernel) (Nat.le_of_ble_eq_true rfl) ?_
  intro p e s m below meth c S hr hlk hpre ls hl
  have S : CallFix p m c cX0_isFull 1 s [.ref (ad 8 i)].toArray wsL_law RX0 := S
  obtain ⟨hK, hN, hX⟩ := hpre
  have hl : lv_has ls 1 [(0, .ref (ad 8 i))] := hl
  have hs := sp_X0_isFull.eq_1 d i
  refine lv_aload_n S.1 S.2.1 dX0_isFull_0 rfl (lv_at hl 0 rfl) ?_
  refine gf_RX0_28 S hK hX hi (v := d.1 8 i 6) rfl dX0_isFull_1 ?_
  refine lv_bipush (v := 12) S.1 S.2.1 dX0_isFull_4 (by decide) ?_
  refine q_icmp_lt (tgt := 13) (xi := (d.1 8 i 6).toInt) (yi := 12) S rfl rfl dX0_isFull_6 (by decide) (fun c1 => ?_) (fun c1 => ?_)
  · have hs := hs.trans (cif_t c1)
    refine lv_iconst (v := 0) S.1 S.2.1 dX0_isFull_13 (by decide) ?_
    exact rZ S hr hlk hs b2i_F.symm dX0_isFull_14
  · have hs := hs.trans (cif_f c1)
    refine lv_iconst (v := 1) S.1 S.2.1 dX0_isFull_9 (by decide) ?_
    refine lv_goto (tgt := 14) S.1 S.2.1 dX0_isFull_10 (by decide) ?_
    exact rZ S hr hlk hs b2i_T.symm dX0_isFull_14
set_option maxRecDepth 100000 in
set_option maxHeartbeats 8000000 in
theorem c_X0_standsBehind (l : Launch) (D : va_G) (G : Gc) (M T : Nat) (ad : Nat → Nat → Nat) (d : Dt) (i : Nat) (p1 : Int32) (p2 : Int32) (p3 : Int32) (hi : i < M) (h0 : 0 ≤ p1.toInt) (h1 : p1.toInt < 12) : Met l yX0_standsBehind (wsU yX0_standsBehind cX0_standsBehind 4 (some .boolean)) ({ frames := 0, cells := 0, slots := 0, locals := 0 } : Room) (va_Pc [.ref (ad 8 i), .int p1, .int p2, .int p3] (XPre D (tysG G) (XF G M T ad) (XN M T) ad d)) (qV (some (.int (b2i (sp_X0_standsBehind d i p1 p2 p3))))) 0 0 (fun _ => False) := by
  refine ent (by decide +kernel) (Nat.le_of_ble_eq_true rfl) ?_
  intro p e s m below meth c S hr hlk hpre ls hl
  have S : CallFix p m c cX0_standsBehind 4 s [.ref (ad 8 i), .int p1, .int p2, .int p3].toArray wsL_law RX0 := S
  obtain ⟨hK, hN, hX⟩ := hpre
  have hl : lv_has ls 4 [(0, .ref (ad 8 i)), (1, .int p1), (2, .int p2), (3, .int p3)] := hl
  have hs := sp_X0_standsBehind.eq_1 d i p1 p2 p3
  refine lv_aload_n S.1 S.2.1 dX0_standsBehind_0 rfl (lv_at hl 0 rfl) ?_
  refine gf_RX0_19 S hK hX hi dX0_standsBehind_1 ?_
  refine lv_iload_n S.1 S.2.1 dX0_standsBehind_4 rfl (lv_at hl 1 rfl) ?_
  refine al_X10 S hK hX hi (by omega) (by omega) (z := d.1 10 i (ix p1)) rfl dX0_standsBehind_5 ?_
  refine lv_iload_n S.1 S.2.1 dX0_standsBehind_6 rfl (lv_at hl 2 rfl) ?_
  refine q_icmp_gt (tgt := 30) (xi := (d.1 10 i (ix p1)).toInt) (yi := p2.toInt) S rfl rfl dX0_standsBehind_7 (by decide) (fun c1 => ?_) (fun c1 => ?_)
  · have hs := hs.trans (cif_t c1)
    refine lv_iconst (v := 1) S.1 S.2.1 dX0_standsBehind_30 (by decide) ?_
    refine lv_goto (tgt := 35) S.1 S.2.1 dX0_standsBehind_31 (by decide) ?_
    exact rZ S hr hlk hs b2i_T.symm dX0_standsBehind_35
  · have hs := hs.trans (cif_f c1)
    refine lv_aload_n S.1 S.2.1 dX0_standsBehind_10 rfl (lv_at hl 0 rfl) ?_
    refine gf_RX0_19 S hK hX hi dX0_standsBehind_11 ?_
    refine lv_iload_n S.1 S.2.1 dX0_standsBehind_14 rfl (lv_at hl 1 rfl) ?_
    refine al_X10 S hK hX hi (by omega) (by omega) (z := d.1 10 i (ix p1)) rfl dX0_standsBehind_15 ?_
    refine lv_iload_n S.1 S.2.1 dX0_standsBehind_16 rfl (lv_at hl 2 rfl) ?_
    refine q_icmp_ne (tgt := 34) (xi := (d.1 10 i (ix p1)).toInt) (yi := p2.toInt) S rfl rfl dX0_standsBehind_17 (by decide) (fun c2 => ?_) (fun c2 => ?_)
    · have hs := hs.trans (cif_f c2)
      refine lv_iconst (v := 0) S.1 S.2.1 dX0_standsBehind_34 (by decide) ?_
      exact rZ S hr hlk hs b2i_F.symm dX0_standsBehind_35
    · have hs := hs.trans (cif_t c2)
      refine lv_aload_n S.1 S.2.1 dX0_standsBehind_20 rfl (lv_at hl 0 rfl) ?_
      refine gf_RX0_22 S hK hX hi dX0_standsBehind_21 ?_
      refine lv_iload_n S.1 S.2.1 dX0_standsBehind_24 rfl (lv_at hl 1 rfl) ?_
      refine al_X11 S hK hX hi (by omega) (by omega) (z := d.1 11 i (ix p1)) rfl dX0_standsBehind_25 ?_
      refine lv_iload_n S.1 S.2.1 dX0_standsBehind_26 rfl (lv_at hl 3 rfl) ?_
      refine q_icmp_le (tgt := 34) (xi := (d.1 11 i (ix p1)).toInt) (yi := p3.toInt) S rfl rfl dX0_standsBehind_27 (by decide) (fun c3 => ?_) (fun c3 => ?_)
      · have hs := hs.trans (cif_t c3)
        refine lv_iconst (v := 0) S.1 S.2.1 dX0_standsBehind_34 (by decide) ?_
        exact rZ S hr hlk hs b2i_F.symm dX0_standsBehind_35
      · have hs := hs.trans (cif_f c3)
        refine lv_iconst (v := 1) S.1 S.2.1 dX0_standsBehind_30 (by decide) ?_
        refine lv_goto (tgt := 35) S.1 S.2.1 dX0_standsBehind_31 (by decide) ?_
        exact rZ S hr hlk hs b2i_T.symm dX0_standsBehind_35
set_option maxRecDepth 100000 in
set_option maxHeartbeats 8000000 in
theorem c_X0_isOnCurve (l : Launch) (D : va_G) (G : Gc) (M T : Nat) (ad : Nat → Nat → Nat) (d : Dt) (i : Nat) (p1 : Int32) (p2 : Int32) (hi : i < M) (h0 : 0 ≤ p1.toInt) (h1 : p1.toInt < 12) (h2 : (d.1 8 i 6).toInt ≤ 12) : Met l yX0_isOnCurve (wsU yX0_isOnCurve cX0_isOnCurve 4 (some .boolean)) ({ frames := 0, cells := 0, slots := 0, locals := 0 } : Room) (va_Pc [.ref (ad 8 i), .int p1, .int p2] (XPre D (tysG G) (XF G M T ad) (XN M T) ad d)) (qV (some (.int (b2i (sp_X0_isOnCurve d i p1 p2))))) 0 0 (fun _ => False) := by
  refine ent (by decide +kernel) (Nat.le_of_ble_eq_true rfl) ?_
  intro p e s m below meth c S hr hlk hpre ls hl
  have S : CallFix p m c cX0_isOnCurve 4 s [.ref (ad 8 i), .int p1, .int p2].toArray wsL_law RX0 := S
  obtain ⟨hK, hN, hX⟩ := hpre
  have hl : lv_has ls 4 [(0, .ref (ad 8 i)), (1, .int p1), (2, .int p2)] := hl
  have hs := sp_X0_isOnCurve.eq_1 d i p1 p2
  have e1 := ti1 (x := p1) (by omega)
  refine lv_aload_n S.1 S.2.1 dX0_isOnCurve_0 rfl (lv_at hl 0 rfl) ?_
  refine gf_RX0_22 S hK hX hi dX0_isOnCurve_1 ?_
  refine lv_iload_n S.1 S.2.1 dX0_isOnCurve_4 rfl (lv_at hl 1 rfl) ?_
  refine al_X11 S hK hX hi (by omega) (by omega) (z := d.1 11 i (ix p1)) rfl dX0_isOnCurve_5 ?_
  refine lv_iload_n S.1 S.2.1 dX0_isOnCurve_6 rfl (lv_at hl 2 rfl) ?_
  refine q_icmp_le (tgt := 12) (xi := (d.1 11 i (ix p1)).toInt) (yi := p2.toInt) S rfl rfl dX0_isOnCurve_7 (by decide) (fun c1 => ?_) (fun c1 => ?_)
  · have hs := hs.trans (cif_t c1)
    refine lv_iload_n S.1 S.2.1 dX0_isOnCurve_12 rfl (lv_at hl 1 rfl) ?_
    refine lv_iconst (v := 1) S.1 S.2.1 dX0_isOnCurve_13 (by decide) ?_
    refine lv_iadd S.1 S.2.1 dX0_isOnCurve_14 ?_
    refine lv_istore_n (lv' := [(3, .int (p1 + 1)), (0, .ref (ad 8 i)), (1, .int p1), (2, .int p2)]) S.1 S.2.1 dX0_isOnCurve_15 rfl hl (by decide) rfl (fun ls hl => ?_)
    refine lv_iload_n S.1 S.2.1 dX0_isOnCurve_16 rfl (lv_at hl 0 rfl) ?_
    refine lv_aload_n S.1 S.2.1 dX0_isOnCurve_17 rfl (lv_at hl 1 rfl) ?_
    refine gf_RX0_28 S hK hX hi (v := d.1 8 i 6) rfl dX0_isOnCurve_18 ?_
    refine q_icmp_ge (tgt := 49) (xi := (p1 + 1).toInt) (yi := (d.1 8 i 6).toInt) S rfl rfl dX0_isOnCurve_21 (by decide) (fun c2 => ?_) (fun c2 => ?_)
    · have hs := hs.trans (cif_t c2)
      refine lv_iconst (v := 1) S.1 S.2.1 dX0_isOnCurve_49 (by decide) ?_
      refine lv_goto (tgt := 54) S.1 S.2.1 dX0_isOnCurve_50 (by decide) ?_
      exact rZ S hr hlk hs b2i_T.symm dX0_isOnCurve_54
    · have hs := hs.trans (cif_f c2)
      refine lv_aload_n S.1 S.2.1 dX0_isOnCurve_24 rfl (lv_at hl 1 rfl) ?_
      refine gf_RX0_19 S hK hX hi dX0_isOnCurve_25 ?_
      refine lv_iload_n S.1 S.2.1 dX0_isOnCurve_28 rfl (lv_at hl 0 rfl) ?_
      refine al_X10 S hK hX hi (by omega) (by omega) (z := d.1 10 i (ix (p1 + 1))) rfl dX0_isOnCurve_29 ?_
      refine lv_aload_n S.1 S.2.1 dX0_isOnCurve_30 rfl (lv_at hl 1 rfl) ?_
      refine gf_RX0_19 S hK hX hi dX0_isOnCurve_31 ?_
      refine lv_iload_n S.1 S.2.1 dX0_isOnCurve_34 rfl (lv_at hl 2 rfl) ?_
      refine al_X10 S hK hX hi (by omega) (by omega) (z := d.1 10 i (ix p1)) rfl dX0_isOnCurve_35 ?_
      refine q_icmp_ne (tgt := 49) (xi := (d.1 10 i (ix (p1 + 1))).toInt) (yi := (d.1 10 i (ix p1)).toInt) S rfl rfl dX0_isOnCurve_36 (by decide) (fun c3 => ?_) (fun c3 => ?_)
      · have hs := hs.trans (cif_f c3)
        refine lv_iconst (v := 1) S.1 S.2.1 dX0_isOnCurve_49 (by decide) ?_
        refine lv_goto (tgt := 54) S.1 S.2.1 dX0_isOnCurve_50 (by decide) ?_
        exact rZ S hr hlk hs b2i_T.symm dX0_isOnCurve_54
      · have hs := hs.trans (cif_t c3)
        refine lv_aload_n S.1 S.2.1 dX0_isOnCurve_39 rfl (lv_at hl 1 rfl) ?_
        refine gf_RX0_22 S hK hX hi dX0_isOnCurve_40 ?_
        refine lv_iload_n S.1 S.2.1 dX0_isOnCurve_43 rfl (lv_at hl 0 rfl) ?_
        refine al_X11 S hK hX hi (by omega) (by omega) (z := d.1 11 i (ix (p1 + 1))) rfl dX0_isOnCurve_44 ?_
        refine lv_iload_n S.1 S.2.1 dX0_isOnCurve_45 rfl (lv_at hl 3 rfl) ?_
        refine q_icmp_le (tgt := 53) (xi := (d.1 11 i (ix (p1 + 1))).toInt) (yi := p2.toInt) S rfl rfl dX0_isOnCurve_46 (by decide) (fun c4 => ?_) (fun c4 => ?_)
        · have hs := hs.trans (cif_t c4)
          refine lv_iconst (v := 0) S.1 S.2.1 dX0_isOnCurve_53 (by decide) ?_
          exact rZ S hr hlk hs b2i_F.symm dX0_isOnCurve_54
        · have hs := hs.trans (cif_f c4)
          refine lv_iconst (v := 1) S.1 S.2.1 dX0_isOnCurve_49 (by decide) ?_
          refine lv_goto (tgt := 54) S.1 S.2.1 dX0_isOnCurve_50 (by decide) ?_
          exact rZ S hr hlk hs b2i_T.symm dX0_isOnCurve_54
  · have hs := hs.trans (cif_f c1)
    refine lv_iconst (v := 0) S.1 S.2.1 dX0_isOnCurve_10 (by decide) ?_
    exact rZ S hr hlk hs b2i_F.symm dX0_isOnCurve_11
set_option maxRecDepth 100000 in
set_option maxHeartbeats 8000000 in
theorem c_X0_between (l : Launch) (D : va_G) (G : Gc) (M T : Nat) (ad : Nat → Nat → Nat) (d : Dt) (i : Nat) (p1 : Int32) (p2 : Int32) (p3 : Int32) (hi : i < M) (h0 : 0 ≤ p1.toInt) (h1 : p1.toInt < 12) (h2 : 0 ≤ p2.toInt) (h3 : p2.toInt < 12) : Met l yX0_between (wsU yX0_between cX0_between 5 (some .int)) ({ frames := 0, cells := 0, slots := 0, locals := 0 } : Room) (va_Pc [.ref (ad 8 i), .int p1, .int p2, .int p3] (XPre D (tysG G) (XF G M T ad) (XN M T) ad d)) (qV (some (.int (sp_X0_between d i p1 p2 p3)))) 0 0 (fun _ => False) := by
  refine ent (by decide +kernel) (Nat.le_of_ble_eq_true rfl) ?_
  intro p e s m below meth c S hr hlk hpre ls hl
  have S : CallFix p m c cX0_between 5 s [.ref (ad 8 i), .int p1, .int p2, .int p3].toArray wsL_law RX0 := S
  obtain ⟨hK, hN, hX⟩ := hpre
  have hl : lv_has ls 5 [(0, .ref (ad 8 i)), (1, .int p1), (2, .int p2), (3, .int p3)] := hl
  have hs := sp_X0_between.eq_1 d i p1 p2 p3
  refine lv_aload_n S.1 S.2.1 dX0_between_0 rfl (lv_at hl 0 rfl) ?_
  refine gf_RX0_19 S hK hX hi dX0_between_1 ?_
  refine lv_iload_n S.1 S.2.1 dX0_between_4 rfl (lv_at hl 2 rfl) ?_
  refine al_X10 S hK hX hi (by omega) (by omega) (z := d.1 10 i (ix p2)) rfl dX0_between_5 ?_
  refine lv_aload_n S.1 S.2.1 dX0_between_6 rfl (lv_at hl 0 rfl) ?_
  refine gf_RX0_19 S hK hX hi dX0_between_7 ?_
  refine lv_iload_n S.1 S.2.1 dX0_between_10 rfl (lv_at hl 1 rfl) ?_
  refine al_X10 S hK hX hi (by omega) (by omega) (z := d.1 10 i (ix p1)) rfl dX0_between_11 ?_
  refine lv_isub S.1 S.2.1 dX0_between_12 ?_
  refine lv_istore (lv' := [(4, .int ((d.1 10 i (ix p2)) - (d.1 10 i (ix p1)))), (0, .ref (ad 8 i)), (1, .int p1), (2, .int p2), (3, .int p3)]) S.1 S.2.1 dX0_between_13 hl (by decide) rfl (fun ls hl => ?_)
  refine lv_iload S.1 S.2.1 dX0_between_15 (lv_at hl 0 rfl) ?_
  refine q_if_ne (tgt := 27) (xi := ((d.1 10 i (ix p2)) - (d.1 10 i (ix p1))).toInt) S rfl dX0_between_17 (by decide) (fun c1 => ?_) (fun c1 => ?_)
  · have hs := hs.trans (cif_f c1)
    refine lv_aload_n S.1 S.2.1 dX0_between_27 rfl (lv_at hl 1 rfl) ?_
    refine gf_RX0_25 S hK hX hi dX0_between_28 ?_
    refine lv_iload_n S.1 S.2.1 dX0_between_31 rfl (lv_at hl 2 rfl) ?_
    refine al_X12 S hK hX hi (by omega) (by omega) (z := d.1 12 i (ix p1)) rfl dX0_between_32 ?_
    refine lv_aload_n S.1 S.2.1 dX0_between_33 rfl (lv_at hl 1 rfl) ?_
    refine gf_RX0_25 S hK hX hi dX0_between_34 ?_
    refine lv_iload_n S.1 S.2.1 dX0_between_37 rfl (lv_at hl 3 rfl) ?_
    refine al_X12 S hK hX hi (by omega) (by omega) (z := d.1 12 i (ix p2)) rfl dX0_between_38 ?_
    refine lv_aload_n S.1 S.2.1 dX0_between_39 rfl (lv_at hl 1 rfl) ?_
    refine gf_RX0_25 S hK hX hi dX0_between_40 ?_
    refine lv_iload_n S.1 S.2.1 dX0_between_43 rfl (lv_at hl 2 rfl) ?_
    refine al_X12 S hK hX hi (by omega) (by omega) (z := d.1 12 i (ix p1)) rfl dX0_between_44 ?_
    refine lv_isub S.1 S.2.1 dX0_between_45 ?_
    refine lv_iload_n S.1 S.2.1 dX0_between_46 rfl (lv_at hl 4 rfl) ?_
    refine lv_aload_n S.1 S.2.1 dX0_between_47 rfl (lv_at hl 1 rfl) ?_
    refine gf_RX0_19 S hK hX hi dX0_between_48 ?_
    refine lv_iload_n S.1 S.2.1 dX0_between_51 rfl (lv_at hl 2 rfl) ?_
    refine al_X10 S hK hX hi (by omega) (by omega) (z := d.1 10 i (ix p1)) rfl dX0_between_52 ?_
    refine lv_isub S.1 S.2.1 dX0_between_53 ?_
    refine lv_imul S.1 S.2.1 dX0_between_54 ?_
    refine lv_iload S.1 S.2.1 dX0_between_55 (lv_at hl 0 rfl) ?_
    refine lv_idiv S.1 S.2.1 dX0_between_57 (by intro h; have h2 := congrArg Int32.toInt h; rw [Int32.toInt_zero] at h2; omega) ?_
    refine lv_iadd S.1 S.2.1 dX0_between_58 ?_
    exact rI S hr hlk hs dX0_between_59
  · have hs := hs.trans (cif_t c1)
    refine lv_aload_n S.1 S.2.1 dX0_between_20 rfl (lv_at hl 1 rfl) ?_
    refine gf_RX0_25 S hK hX hi dX0_between_21 ?_
    refine lv_iload_n S.1 S.2.1 dX0_between_24 rfl (lv_at hl 2 rfl) ?_
    refine al_X12 S hK hX hi (by omega) (by omega) (z := d.1 12 i (ix p1)) rfl dX0_between_25 ?_
    exact rI S hr hlk hs dX0_between_26
set_option maxRecDepth 100000 in
set_option maxHeartbeats 8000000 in
theorem c_X0_curveSize (l : Launch) (D : va_G) (G : Gc) (M T : Nat) (ad : Nat → Nat → Nat) (d : Dt) (i : Nat) (p1 : Int32) (hi : i < M) (h0 : 0 ≤ (d.1 8 i 6).toInt) (h1 : (d.1 8 i 6).toInt ≤ 12) : Met l yX0_curveSize (wsU yX0_curveSize cX0_curveSize 4 (some .int)) ({ frames := 1, cells := 0, slots := 0, locals := 23 } : Room) (va_Pc [.ref (ad 8 i), .int p1] (XPre D (tysG G) (XF G M T ad) (XN M T) ad d)) (qV (some (.int (sp_X0_curveSize d i p1)))) 0 0 (fun _ => False) := by
  refine ent (by decide +kernel) (Nat.le_of_ble_eq_true rfl) ?_
  intro p e s m below meth c S hr hlk hpre ls hl
  have S : CallFix p m c cX0_curveSize 4 s [.ref (ad 8 i), .int p1].toArray wsL_law RX0 := S
  obtain ⟨hK, hN, hX⟩ := hpre
  have hl : lv_has ls 4 [(0, .ref (ad 8 i)), (1, .int p1)] := hl
  have hs := sp_X0_curveSize.eq_1 d i p1
  refine lv_iconst (v := 0) S.1 S.2.1 dX0_curveSize_0 (by decide) ?_
  refine lv_istore_n (lv' := [(2, .int 0), (0, .ref (ad 8 i)), (1, .int p1)]) S.1 S.2.1 dX0_curveSize_1 rfl hl (by decide) rfl (fun ls hl => ?_)
  refine lv_iconst (v := 0) S.1 S.2.1 dX0_curveSize_2 (by decide) ?_
  refine lv_istore_n (lv' := [(3, .int 0), (2, .int 0), (0, .ref (ad 8 i)), (1, .int p1)]) S.1 S.2.1 dX0_curveSize_3 rfl hl (by decide) rfl (fun ls hl => ?_)
  have L4 : ∀ (n : Nat), ∀ (x3 : Int32) (x2 : Int32), (d.1 8 i 6).toInt - x3.toInt < (n : Int) → 0 ≤ x3.toInt → x3.toInt ≤ (d.1 8 i 6).toInt → sp_X0_curveSize d i p1 = lp_X0_curveSize_4 d i p1 n x3 x2 → ∀ ls : Array Slot, lv_has ls 4 [(3, .int x3), (2, .int x2), (0, .ref (ad 8 i)), (1, .int p1)] → W p l e ({ frames := 1, cells := 0, slots := 0, locals := 23 } : Room) s m [.ref (ad 8 i), .int p1].toArray below meth c s.heap [] 0 0 (MQ below (qV (some (.int (sp_X0_curveSize d i p1)))) [.ref (ad 8 i), .int p1].toArray s 0 0 (fun _ => False)) (F0 m 4 ls []) := by
    intro n
    induction n with
    | zero => intro x3 x2 hms v4_0 v4_1 hs ls hl; omega
    | succ n ih4 =>
      intro x3 x2 hms v4_0 v4_1 hs ls hl
      have hs := hs.trans (st_X0_curveSize_4.eq_1 d i p1 (lp_X0_curveSize_4 d i p1 n) x3 x2)
      refine lv_iload_n S.1 S.2.1 dX0_curveSize_4 rfl (lv_at hl 0 rfl) ?_
      refine lv_aload_n S.1 S.2.1 dX0_curveSize_5 rfl (lv_at hl 2 rfl) ?_
      refine gf_RX0_28 S hK hX hi (v := d.1 8 i 6) rfl dX0_curveSize_6 ?_
      refine q_icmp_ge (tgt := 35) (xi := x3.toInt) (yi := (d.1 8 i 6).toInt) S rfl rfl dX0_curveSize_9 (by decide) (fun c1 => ?_) (fun c1 => ?_)
      · have hs := hs.trans (cif_t c1)
        refine lv_iload_n S.1 S.2.1 dX0_curveSize_35 rfl (lv_at hl 1 rfl) ?_
        exact rI S hr hlk hs dX0_curveSize_36
      · have hs := hs.trans (cif_f c1)
        refine lv_iload_n S.1 S.2.1 dX0_curveSize_12 rfl (lv_at hl 1 rfl) ?_
        refine lv_aload_n S.1 S.2.1 dX0_curveSize_13 rfl (lv_at hl 2 rfl) ?_
        refine lv_iload_n S.1 S.2.1 dX0_curveSize_14 rfl (lv_at hl 0 rfl) ?_
        refine lv_iload_n S.1 S.2.1 dX0_curveSize_15 rfl (lv_at hl 3 rfl) ?_
        refine cPV (rest := [.int x2]) S (c_X0_isOnCurve l D G M T ad d i x3 p1 hi (by omega) (by omega) (by omega)) gV_RX0_38 ds_X0_isOnCurve ⟨rfl, rfl⟩ ⟨Nat.le_of_ble_eq_true rfl, Nat.le_of_ble_eq_true rfl⟩ ⟨blindX, recvX hK hX (k := 8) (i := i) hi rfl rfl, preX hK hN hX _⟩ rfl hl.1 rfl (Nat.le_of_ble_eq_true rfl) ⟨Nat.le_of_ble_eq_true rfl, Nat.le_of_ble_eq_true rfl⟩ dX0_curveSize_16 ?_
        refine q_if_eq_b (tgt := 26) S dX0_curveSize_19 (by decide) (fun c2 => ?_) (fun c2 => ?_)
        · have hs := hs.trans (cif_f c2)
          refine lv_iconst (v := 0) S.1 S.2.1 dX0_curveSize_26 (by decide) ?_
          refine lv_iadd S.1 S.2.1 dX0_curveSize_27 ?_
          refine lv_istore_n (lv' := [(2, .int (x2 + 0)), (3, .int x3), (0, .ref (ad 8 i)), (1, .int p1)]) S.1 S.2.1 dX0_curveSize_28 rfl hl (by decide) rfl (fun ls hl => ?_)
          refine lv_iinc (v := x3 + 1) (lv' := [(3, .int (x3 + 1)), (2, .int (x2 + 0)), (0, .ref (ad 8 i)), (1, .int p1)]) S.1 S.2.1 dX0_curveSize_29 hl (k := 1) rfl (by rfl) (by decide) rfl (fun ls hl => ?_)
          refine lv_goto (tgt := 4) S.1 S.2.1 dX0_curveSize_32 (by decide) ?_
          have e9 : ((x3 + 1)).toInt = x3.toInt + 1 := ti1 (by omega)
          exact ih4 (x3 + 1) (x2 + 0) (by omega) (by omega) (by omega) hs _ (lv_sub hl [0, 1, 2, 3] rfl)
        · have hs := hs.trans (cif_t c2)
          refine lv_iconst (v := 1) S.1 S.2.1 dX0_curveSize_22 (by decide) ?_
          refine lv_goto (tgt := 27) S.1 S.2.1 dX0_curveSize_23 (by decide) ?_
          refine lv_iadd S.1 S.2.1 dX0_curveSize_27 ?_
          refine lv_istore_n (lv' := [(2, .int (x2 + 1)), (3, .int x3), (0, .ref (ad 8 i)), (1, .int p1)]) S.1 S.2.1 dX0_curveSize_28 rfl hl (by decide) rfl (fun ls hl => ?_)
          refine lv_iinc (v := x3 + 1) (lv' := [(3, .int (x3 + 1)), (2, .int (x2 + 1)), (0, .ref (ad 8 i)), (1, .int p1)]) S.1 S.2.1 dX0_curveSize_29 hl (k := 1) rfl (by rfl) (by decide) rfl (fun ls hl => ?_)
          refine lv_goto (tgt := 4) S.1 S.2.1 dX0_curveSize_32 (by decide) ?_
          have e9 : ((x3 + 1)).toInt = x3.toInt + 1 := ti1 (by omega)
          exact ih4 (x3 + 1) (x2 + 1) (by omega) (by omega) (by omega) hs _ (lv_sub hl [0, 1, 2, 3] rfl)
  exact L4 16 0 0 (by first | omega | (simp only [Int32.toInt_zero]; omega)) (by first | omega | (simp only [Int32.toInt_zero]; omega)) (by first | omega | (simp only [Int32.toInt_zero]; omega)) hs _ (lv_sub hl [0, 1, 2, 3] rfl)
set_option maxRecDepth 100000 in
set_option maxHeartbeats 8000000 in
theorem c_X3_isReplaced (l : Launch) (D : va_G) (G : Gc) (M T : Nat) (ad : Nat → Nat → Nat) (d : Dt) (i : Nat) (hi : i < T) : Met l yX3_isReplaced (wsU yX3_isReplaced cX3_isReplaced 1 (some .boolean)) ({ frames := 0, cells := 0, slots := 0, locals := 0 } : Room) (va_Pc [.ref (ad 13 i)] (XPre D (tysG G) (XF G M T ad) (XN M T) ad d)) (qV (some (.int (b2i (sp_X3_isReplaced d i))))) 0 0 (fun _ => False) := by
  refine ent (by decide +kernel) (Nat.le_of_ble_eq_true rfl) ?_
  intro p e s m below meth c S hr hlk hpre ls hl
  have S : CallFix p m c cX3_isReplaced 1 s [.ref (ad 13 i)].toArray wsL_law RX3 := S
  obtain ⟨hK, hN, hX⟩ := hpre
  have hl : lv_has ls 1 [(0, .ref (ad 13 i))] := hl
  have hs := sp_X3_isReplaced.eq_1 d i
  refine lv_aload_n S.1 S.2.1 dX3_isReplaced_0 rfl (lv_at hl 0 rfl) ?_
  refine gf_RX3_15 S hK hX hi (v := d.1 13 i 6) rfl dX3_isReplaced_1 ?_
  refine lv_bipush (v := (-9)) S.1 S.2.1 dX3_isReplaced_4 (by decide) ?_
  refine q_icmp_eq (tgt := 13) (xi := (d.1 13 i 6).toInt) (yi := (-9)) S rfl rfl dX3_isReplaced_6 (by decide) (fun c1 => ?_) (fun c1 => ?_)
  · have hs := hs.trans (cif_t c1)
    refine lv_iconst (v := 0) S.1 S.2.1 dX3_isReplaced_13 (by decide) ?_
    exact rZ S hr hlk hs b2i_F.symm dX3_isReplaced_14
  · have hs := hs.trans (cif_f c1)
    refine lv_iconst (v := 1) S.1 S.2.1 dX3_isReplaced_9 (by decide) ?_
    refine lv_goto (tgt := 14) S.1 S.2.1 dX3_isReplaced_10 (by decide) ?_
    exact rZ S hr hlk hs b2i_T.symm dX3_isReplaced_14
set_option maxRecDepth 100000 in
set_option maxHeartbeats 8000000 in
theorem c_X0_curvePlace (l : Launch) (D : va_G) (G : Gc) (M T : Nat) (ad : Nat → Nat → Nat) (d : Dt) (i : Nat) (p1 : Int32) (p2 : Int32) (hi : i < M) (h0 : 0 ≤ (d.1 8 i 6).toInt) (h1 : (d.1 8 i 6).toInt ≤ 12) : Met l yX0_curvePlace (wsU yX0_curvePlace cX0_curvePlace 5 (some .int)) ({ frames := 1, cells := 0, slots := 0, locals := 23 } : Room) (va_Pc [.ref (ad 8 i), .int p1, .int p2] (XPre D (tysG G) (XF G M T ad) (XN M T) ad d)) (qV (some (.int (sp_X0_curvePlace d i p1 p2)))) 0 0 (fun _ => False) := by
  refine ent (by decide +kernel) (Nat.le_of_ble_eq_true rfl) ?_
  intro p e s m below meth c S hr hlk hpre ls hl
  have S : CallFix p m c cX0_curvePlace 5 s [.ref (ad 8 i), .int p1, .int p2].toArray wsL_law RX0 := S
  obtain ⟨hK, hN, hX⟩ := hpre
  have hl : lv_has ls 5 [(0, .ref (ad 8 i)), (1, .int p1), (2, .int p2)] := hl
  have hs := sp_X0_curvePlace.eq_1 d i p1 p2
  refine lv_iconst (v := 0) S.1 S.2.1 dX0_curvePlace_0 (by decide) ?_
  refine lv_istore_n (lv' := [(3, .int 0), (0, .ref (ad 8 i)), (1, .int p1), (2, .int p2)]) S.1 S.2.1 dX0_curvePlace_1 rfl hl (by decide) rfl (fun ls hl => ?_)
  refine lv_iconst (v := 0) S.1 S.2.1 dX0_curvePlace_2 (by decide) ?_
  refine lv_istore (lv' := [(4, .int 0), (3, .int 0), (0, .ref (ad 8 i)), (1, .int p1), (2, .int p2)]) S.1 S.2.1 dX0_curvePlace_3 hl (by decide) rfl (fun ls hl => ?_)
  have L5 : ∀ (n : Nat), ∀ (x4 : Int32) (x3 : Int32), (d.1 8 i 6).toInt - x4.toInt < (n : Int) → 0 ≤ x4.toInt → x4.toInt ≤ (d.1 8 i 6).toInt → sp_X0_curvePlace d i p1 p2 = lp_X0_curvePlace_5 d i p1 p2 n x4 x3 → ∀ ls : Array Slot, lv_has ls 5 [(4, .int x4), (3, .int x3), (0, .ref (ad 8 i)), (1, .int p1), (2, .int p2)] → W p l e ({ frames := 1, cells := 0, slots := 0, locals := 23 } : Room) s m [.ref (ad 8 i), .int p1, .int p2].toArray below meth c s.heap [] 0 0 (MQ below (qV (some (.int (sp_X0_curvePlace d i p1 p2)))) [.ref (ad 8 i), .int p1, .int p2].toArray s 0 0 (fun _ => False)) (F0 m 5 ls []) := by
    intro n
    induction n with
    | zero => intro x4 x3 hms v5_0 v5_1 hs ls hl; omega
    | succ n ih5 =>
      intro x4 x3 hms v5_0 v5_1 hs ls hl
      have hs := hs.trans (st_X0_curvePlace_5.eq_1 d i p1 p2 (lp_X0_curvePlace_5 d i p1 p2 n) x4 x3)
      refine lv_iload S.1 S.2.1 dX0_curvePlace_5 (lv_at hl 0 rfl) ?_
      refine lv_aload_n S.1 S.2.1 dX0_curvePlace_7 rfl (lv_at hl 2 rfl) ?_
      refine gf_RX0_28 S hK hX hi (v := d.1 8 i 6) rfl dX0_curvePlace_8 ?_
      refine q_icmp_ge (tgt := 41) (xi := x4.toInt) (yi := (d.1 8 i 6).toInt) S rfl rfl dX0_curvePlace_11 (by decide) (fun c1 => ?_) (fun c1 => ?_)
      · have hs := hs.trans (cif_t c1)
        refine lv_bipush (v := (-9)) S.1 S.2.1 dX0_curvePlace_41 (by decide) ?_
        exact rI S hr hlk hs dX0_curvePlace_43
      · have hs := hs.trans (cif_f c1)
        refine lv_aload_n S.1 S.2.1 dX0_curvePlace_14 rfl (lv_at hl 2 rfl) ?_
        refine lv_iload S.1 S.2.1 dX0_curvePlace_15 (lv_at hl 0 rfl) ?_
        refine lv_iload_n S.1 S.2.1 dX0_curvePlace_17 rfl (lv_at hl 3 rfl) ?_
        refine cPV (rest := []) S (c_X0_isOnCurve l D G M T ad d i x4 p1 hi (by omega) (by omega) (by omega)) gV_RX0_38 ds_X0_isOnCurve ⟨rfl, rfl⟩ ⟨Nat.le_of_ble_eq_true rfl, Nat.le_of_ble_eq_true rfl⟩ ⟨blindX, recvX hK hX (k := 8) (i := i) hi rfl rfl, preX hK hN hX _⟩ rfl hl.1 rfl (Nat.le_of_ble_eq_true rfl) ⟨Nat.le_of_ble_eq_true rfl, Nat.le_of_ble_eq_true rfl⟩ dX0_curvePlace_18 ?_
        refine q_if_eq_b (tgt := 35) S dX0_curvePlace_21 (by decide) (fun c2 => ?_) (fun c2 => ?_)
        · have hs := hs.trans (cif_f c2)
          refine lv_iinc (v := x4 + 1) (lv' := [(4, .int (x4 + 1)), (3, .int x3), (0, .ref (ad 8 i)), (1, .int p1), (2, .int p2)]) S.1 S.2.1 dX0_curvePlace_35 hl (k := 0) rfl (by rfl) (by decide) rfl (fun ls hl => ?_)
          refine lv_goto (tgt := 5) S.1 S.2.1 dX0_curvePlace_38 (by decide) ?_
          have e9 : ((x4 + 1)).toInt = x4.toInt + 1 := ti1 (by omega)
          exact ih5 (x4 + 1) x3 (by omega) (by omega) (by omega) hs _ (lv_sub hl [0, 1, 2, 3, 4] rfl)
        · have hs := hs.trans (cif_t c2)
          refine lv_iload_n S.1 S.2.1 dX0_curvePlace_24 rfl (lv_at hl 1 rfl) ?_
          refine lv_iload_n S.1 S.2.1 dX0_curvePlace_25 rfl (lv_at hl 4 rfl) ?_
          refine q_icmp_ne (tgt := 32) (xi := x3.toInt) (yi := p2.toInt) S rfl rfl dX0_curvePlace_26 (by decide) (fun c3 => ?_) (fun c3 => ?_)
          · have hs := hs.trans (cif_f c3)
            refine lv_iinc (v := x3 + 1) (lv' := [(3, .int (x3 + 1)), (4, .int x4), (0, .ref (ad 8 i)), (1, .int p1), (2, .int p2)]) S.1 S.2.1 dX0_curvePlace_32 hl (k := 1) rfl (by rfl) (by decide) rfl (fun ls hl => ?_)
            refine lv_iinc (v := x4 + 1) (lv' := [(4, .int (x4 + 1)), (3, .int (x3 + 1)), (0, .ref (ad 8 i)), (1, .int p1), (2, .int p2)]) S.1 S.2.1 dX0_curvePlace_35 hl (k := 1) rfl (by rfl) (by decide) rfl (fun ls hl => ?_)
            refine lv_goto (tgt := 5) S.1 S.2.1 dX0_curvePlace_38 (by decide) ?_
            have e9 : ((x4 + 1)).toInt = x4.toInt + 1 := ti1 (by omega)
            exact ih5 (x4 + 1) (x3 + 1) (by omega) (by omega) (by omega) hs _ (lv_sub hl [0, 1, 2, 3, 4] rfl)
          · have hs := hs.trans (cif_t c3)
            refine lv_iload S.1 S.2.1 dX0_curvePlace_29 (lv_at hl 0 rfl) ?_
            exact rI S hr hlk hs dX0_curvePlace_31
  exact L5 16 0 0 (by first | omega | (simp only [Int32.toInt_zero]; omega)) (by first | omega | (simp only [Int32.toInt_zero]; omega)) (by first | omega | (simp only [Int32.toInt_zero]; omega)) hs _ (lv_sub hl [0, 1, 2, 3, 4] rfl)
set_option maxRecDepth 100000 in
set_option maxHeartbeats 8000000 in
theorem c_X0_factorAt (l : Launch) (D : va_G) (G : Gc) (M T : Nat) (ad : Nat → Nat → Nat) (d : Dt) (i : Nat) (p1 : Int32) (p2 : Int32) (hi : i < M) (h0 : 0 ≤ (d.1 8 i 6).toInt) (h1 : (d.1 8 i 6).toInt ≤ 12) : Met l yX0_factorAt (wsU yX0_factorAt cX0_factorAt 6 (some .int)) ({ frames := 1, cells := 0, slots := 0, locals := 24 } : Room) (va_Pc [.ref (ad 8 i), .int p1, .int p2] (XPre D (tysG G) (XF G M T ad) (XN M T) ad d)) (qV (some (.int (sp_X0_factorAt d i p1 p2)))) 0 0 (fun _ => False) := by
  refine ent (by decide +kernel) (Nat.le_of_ble_eq_true rfl) ?_
  intro p e s m below meth c S hr hlk hpre ls hl
  have S : CallFix p m c cX0_factorAt 6 s [.ref (ad 8 i), .int p1, .int p2].toArray wsL_law RX0 := S
  obtain ⟨hK, hN, hX⟩ := hpre
  have hl : lv_has ls 6 [(0, .ref (ad 8 i)), (1, .int p1), (2, .int p2)] := hl
  have hs := sp_X0_factorAt.eq_1 d i p1 p2
  refine lv_bipush (v := (-9)) S.1 S.2.1 dX0_factorAt_0 (by decide) ?_
  refine lv_istore_n (lv' := [(3, .int (-9)), (0, .ref (ad 8 i)), (1, .int p1), (2, .int p2)]) S.1 S.2.1 dX0_factorAt_2 rfl hl (by decide) rfl (fun ls hl => ?_)
  refine lv_bipush (v := (-9)) S.1 S.2.1 dX0_factorAt_3 (by decide) ?_
  refine lv_istore (lv' := [(4, .int (-9)), (3, .int (-9)), (0, .ref (ad 8 i)), (1, .int p1), (2, .int p2)]) S.1 S.2.1 dX0_factorAt_5 hl (by decide) rfl (fun ls hl => ?_)
  refine lv_iconst (v := 0) S.1 S.2.1 dX0_factorAt_7 (by decide) ?_
  refine lv_istore (lv' := [(5, .int 0), (4, .int (-9)), (3, .int (-9)), (0, .ref (ad 8 i)), (1, .int p1), (2, .int p2)]) S.1 S.2.1 dX0_factorAt_8 hl (by decide) rfl (fun ls hl => ?_)
  have L10 : ∀ (n : Nat), ∀ (x5 : Int32) (x4 : Int32) (x3 : Int32), (d.1 8 i 6).toInt - x5.toInt < (n : Int) → 0 ≤ x5.toInt → x5.toInt ≤ (d.1 8 i 6).toInt → (x3.toInt = -9 ∨ (0 ≤ x3.toInt ∧ x3.toInt < 12)) → (x4.toInt = -9 ∨ (0 ≤ x4.toInt ∧ x4.toInt < 12)) → sp_X0_factorAt d i p1 p2 = lp_X0_factorAt_10 d i p1 p2 n x5 x4 x3 → ∀ ls : Array Slot, lv_has ls 6 [(5, .int x5), (4, .int x4), (3, .int x3), (0, .ref (ad 8 i)), (1, .int p1), (2, .int p2)] → W p l e ({ frames := 1, cells := 0, slots := 0, locals := 24 } : Room) s m [.ref (ad 8 i), .int p1, .int p2].toArray below meth c s.heap [] 0 0 (MQ below (qV (some (.int (sp_X0_factorAt d i p1 p2)))) [.ref (ad 8 i), .int p1, .int p2].toArray s 0 0 (fun _ => False)) (F0 m 10 ls []) := by
    intro n
    induction n with
    | zero => intro x5 x4 x3 hms v10_0 v10_1 v10_2 v10_3 hs ls hl; omega
    | succ n ih10 =>
      intro x5 x4 x3 hms v10_0 v10_1 v10_2 v10_3 hs ls hl
      have hs := hs.trans (st_X0_factorAt_10.eq_1 d i p1 p2 (lp_X0_factorAt_10 d i p1 p2 n) x5 x4 x3)
      refine lv_iload S.1 S.2.1 dX0_factorAt_10 (lv_at hl 0 rfl) ?_
      refine lv_aload_n S.1 S.2.1 dX0_factorAt_12 rfl (lv_at hl 3 rfl) ?_
      refine gf_RX0_28 S hK hX hi (v := d.1 8 i 6) rfl dX0_factorAt_13 ?_
      refine q_icmp_ge (tgt := 71) (xi := x5.toInt) (yi := (d.1 8 i 6).toInt) S rfl rfl dX0_factorAt_16 (by decide) (fun c1 => ?_) (fun c1 => ?_)
      · have hs := hs.trans (cif_t c1)
        refine lv_iload_n S.1 S.2.1 dX0_factorAt_71 rfl (lv_at hl 2 rfl) ?_
        refine lv_bipush (v := (-9)) S.1 S.2.1 dX0_factorAt_72 (by decide) ?_
        refine q_icmp_ne (tgt := 97) (xi := x3.toInt) (yi := (-9)) S rfl rfl dX0_factorAt_74 (by decide) (fun c2 => ?_) (fun c2 => ?_)
        · have hs := hs.trans (cif_f c2)
          refine lv_iload S.1 S.2.1 dX0_factorAt_97 (lv_at hl 1 rfl) ?_
          refine lv_bipush (v := (-9)) S.1 S.2.1 dX0_factorAt_99 (by decide) ?_
          refine q_icmp_ne (tgt := 113) (xi := x4.toInt) (yi := (-9)) S rfl rfl dX0_factorAt_101 (by decide) (fun c3 => ?_) (fun c3 => ?_)
          · have hs := hs.trans (cif_f c3)
            refine lv_aload_n S.1 S.2.1 dX0_factorAt_113 rfl (lv_at hl 3 rfl) ?_
            refine lv_iload_n S.1 S.2.1 dX0_factorAt_114 rfl (lv_at hl 2 rfl) ?_
            refine lv_iload S.1 S.2.1 dX0_factorAt_115 (lv_at hl 1 rfl) ?_
            refine lv_iload_n S.1 S.2.1 dX0_factorAt_117 rfl (lv_at hl 4 rfl) ?_
            refine cPV (rest := []) S (c_X0_between l D G M T ad d i x3 x4 p1 hi (by omega) (by omega) (by omega) (by omega)) gV_RX0_43 ds_X0_between ⟨rfl, rfl⟩ ⟨Nat.le_of_ble_eq_true rfl, Nat.le_of_ble_eq_true rfl⟩ ⟨blindX, recvX hK hX (k := 8) (i := i) hi rfl rfl, preX hK hN hX _⟩ rfl hl.1 rfl (Nat.le_of_ble_eq_true rfl) ⟨Nat.le_of_ble_eq_true rfl, Nat.le_of_ble_eq_true rfl⟩ dX0_factorAt_118 ?_
            exact rI S hr hlk hs dX0_factorAt_121
          · have hs := hs.trans (cif_t c3)
            refine lv_aload_n S.1 S.2.1 dX0_factorAt_104 rfl (lv_at hl 3 rfl) ?_
            refine gf_RX0_25 S hK hX hi dX0_factorAt_105 ?_
            refine lv_iload_n S.1 S.2.1 dX0_factorAt_108 rfl (lv_at hl 2 rfl) ?_
            refine al_X12 S hK hX hi (by omega) (by omega) (z := d.1 12 i (ix x3)) rfl dX0_factorAt_109 ?_
            refine lv_goto (tgt := 121) S.1 S.2.1 dX0_factorAt_110 (by decide) ?_
            exact rI S hr hlk hs dX0_factorAt_121
        · have hs := hs.trans (cif_t c2)
          refine lv_iload S.1 S.2.1 dX0_factorAt_77 (lv_at hl 1 rfl) ?_
          refine lv_bipush (v := (-9)) S.1 S.2.1 dX0_factorAt_79 (by decide) ?_
          refine q_icmp_ne (tgt := 89) (xi := x4.toInt) (yi := (-9)) S rfl rfl dX0_factorAt_81 (by decide) (fun c4 => ?_) (fun c4 => ?_)
          · have hs := hs.trans (cif_f c4)
            refine lv_aload_n S.1 S.2.1 dX0_factorAt_89 rfl (lv_at hl 3 rfl) ?_
            refine gf_RX0_25 S hK hX hi dX0_factorAt_90 ?_
            refine lv_iload S.1 S.2.1 dX0_factorAt_93 (lv_at hl 1 rfl) ?_
            refine al_X12 S hK hX hi (by omega) (by omega) (z := d.1 12 i (ix x4)) rfl dX0_factorAt_95 ?_
            exact rI S hr hlk hs dX0_factorAt_96
          · have hs := hs.trans (cif_t c4)
            refine lv_ldc S.1 S.2.1 S.2.2.2.1 (S.2.2.2.2 _ wKI_RX0_42) dX0_factorAt_84 ?_
            refine lv_goto (tgt := 96) S.1 S.2.1 dX0_factorAt_86 (by decide) ?_
            exact rI S hr hlk hs dX0_factorAt_96
      · have hs := hs.trans (cif_f c1)
        refine lv_aload_n S.1 S.2.1 dX0_factorAt_19 rfl (lv_at hl 3 rfl) ?_
        refine lv_iload S.1 S.2.1 dX0_factorAt_20 (lv_at hl 0 rfl) ?_
        refine lv_iload_n S.1 S.2.1 dX0_factorAt_22 rfl (lv_at hl 5 rfl) ?_
        refine cPV (rest := []) S (c_X0_isOnCurve l D G M T ad d i x5 p2 hi (by omega) (by omega) (by omega)) gV_RX0_38 ds_X0_isOnCurve ⟨rfl, rfl⟩ ⟨Nat.le_of_ble_eq_true rfl, Nat.le_of_ble_eq_true rfl⟩ ⟨blindX, recvX hK hX (k := 8) (i := i) hi rfl rfl, preX hK hN hX _⟩ rfl hl.1 rfl (Nat.le_of_ble_eq_true rfl) ⟨Nat.le_of_ble_eq_true rfl, Nat.le_of_ble_eq_true rfl⟩ dX0_factorAt_23 ?_
        refine q_if_eq_b (tgt := 65) S dX0_factorAt_26 (by decide) (fun c5 => ?_) (fun c5 => ?_)
        · have hs := hs.trans (cif_f c5)
          refine lv_iinc (v := x5 + 1) (lv' := [(5, .int (x5 + 1)), (4, .int x4), (3, .int x3), (0, .ref (ad 8 i)), (1, .int p1), (2, .int p2)]) S.1 S.2.1 dX0_factorAt_65 hl (k := 0) rfl (by rfl) (by decide) rfl (fun ls hl => ?_)
          refine lv_goto (tgt := 10) S.1 S.2.1 dX0_factorAt_68 (by decide) ?_
          have e9 : ((x5 + 1)).toInt = x5.toInt + 1 := ti1 (by omega)
          exact ih10 (x5 + 1) x4 x3 (by omega) (by omega) (by omega) (by omega) (by omega) hs _ (lv_sub hl [0, 1, 2, 3, 4, 5] rfl)
        · have hs := hs.trans (cif_t c5)
          refine lv_aload_n S.1 S.2.1 dX0_factorAt_29 rfl (lv_at hl 3 rfl) ?_
          refine gf_RX0_19 S hK hX hi dX0_factorAt_30 ?_
          refine lv_iload S.1 S.2.1 dX0_factorAt_33 (lv_at hl 0 rfl) ?_
          refine al_X10 S hK hX hi (by omega) (by omega) (z := d.1 10 i (ix x5)) rfl dX0_factorAt_35 ?_
          refine lv_iload_n S.1 S.2.1 dX0_factorAt_36 rfl (lv_at hl 4 rfl) ?_
          refine q_icmp_gt (tgt := 43) (xi := (d.1 10 i (ix x5)).toInt) (yi := p1.toInt) S rfl rfl dX0_factorAt_37 (by decide) (fun c6 => ?_) (fun c6 => ?_)
          · have hs := hs.trans (cif_t c6)
            refine lv_aload_n S.1 S.2.1 dX0_factorAt_43 rfl (lv_at hl 3 rfl) ?_
            refine gf_RX0_19 S hK hX hi dX0_factorAt_44 ?_
            refine lv_iload S.1 S.2.1 dX0_factorAt_47 (lv_at hl 0 rfl) ?_
            refine al_X10 S hK hX hi (by omega) (by omega) (z := d.1 10 i (ix x5)) rfl dX0_factorAt_49 ?_
            refine lv_iload_n S.1 S.2.1 dX0_factorAt_50 rfl (lv_at hl 4 rfl) ?_
            refine q_icmp_lt (tgt := 65) (xi := (d.1 10 i (ix x5)).toInt) (yi := p1.toInt) S rfl rfl dX0_factorAt_51 (by decide) (fun c7 => ?_) (fun c7 => ?_)
            · have hs := hs.trans (cif_t c7)
              refine lv_iinc (v := x5 + 1) (lv' := [(5, .int (x5 + 1)), (4, .int x4), (3, .int x3), (0, .ref (ad 8 i)), (1, .int p1), (2, .int p2)]) S.1 S.2.1 dX0_factorAt_65 hl (k := 0) rfl (by rfl) (by decide) rfl (fun ls hl => ?_)
              refine lv_goto (tgt := 10) S.1 S.2.1 dX0_factorAt_68 (by decide) ?_
              have e9 : ((x5 + 1)).toInt = x5.toInt + 1 := ti1 (by omega)
              exact ih10 (x5 + 1) x4 x3 (by omega) (by omega) (by omega) (by omega) (by omega) hs _ (lv_sub hl [0, 1, 2, 3, 4, 5] rfl)
            · have hs := hs.trans (cif_f c7)
              refine lv_iload S.1 S.2.1 dX0_factorAt_54 (lv_at hl 1 rfl) ?_
              refine lv_bipush (v := (-9)) S.1 S.2.1 dX0_factorAt_56 (by decide) ?_
              refine q_icmp_ne (tgt := 65) (xi := x4.toInt) (yi := (-9)) S rfl rfl dX0_factorAt_58 (by decide) (fun c8 => ?_) (fun c8 => ?_)
              · have hs := hs.trans (cif_f c8)
                refine lv_iinc (v := x5 + 1) (lv' := [(5, .int (x5 + 1)), (4, .int x4), (3, .int x3), (0, .ref (ad 8 i)), (1, .int p1), (2, .int p2)]) S.1 S.2.1 dX0_factorAt_65 hl (k := 0) rfl (by rfl) (by decide) rfl (fun ls hl => ?_)
                refine lv_goto (tgt := 10) S.1 S.2.1 dX0_factorAt_68 (by decide) ?_
                have e9 : ((x5 + 1)).toInt = x5.toInt + 1 := ti1 (by omega)
                exact ih10 (x5 + 1) x4 x3 (by omega) (by omega) (by omega) (by omega) (by omega) hs _ (lv_sub hl [0, 1, 2, 3, 4, 5] rfl)
              · have hs := hs.trans (cif_t c8)
                refine lv_iload S.1 S.2.1 dX0_factorAt_61 (lv_at hl 0 rfl) ?_
                refine lv_istore (lv' := [(4, .int x5), (5, .int x5), (3, .int x3), (0, .ref (ad 8 i)), (1, .int p1), (2, .int p2)]) S.1 S.2.1 dX0_factorAt_63 hl (by decide) rfl (fun ls hl => ?_)
                refine lv_iinc (v := x5 + 1) (lv' := [(5, .int (x5 + 1)), (4, .int x5), (3, .int x3), (0, .ref (ad 8 i)), (1, .int p1), (2, .int p2)]) S.1 S.2.1 dX0_factorAt_65 hl (k := 1) rfl (by rfl) (by decide) rfl (fun ls hl => ?_)
                refine lv_goto (tgt := 10) S.1 S.2.1 dX0_factorAt_68 (by decide) ?_
                have e9 : ((x5 + 1)).toInt = x5.toInt + 1 := ti1 (by omega)
                exact ih10 (x5 + 1) x5 x3 (by omega) (by omega) (by omega) (by omega) (by omega) hs _ (lv_sub hl [0, 1, 2, 3, 4, 5] rfl)
          · have hs := hs.trans (cif_f c6)
            refine lv_iload S.1 S.2.1 dX0_factorAt_40 (lv_at hl 0 rfl) ?_
            refine lv_istore_n (lv' := [(3, .int x5), (5, .int x5), (4, .int x4), (0, .ref (ad 8 i)), (1, .int p1), (2, .int p2)]) S.1 S.2.1 dX0_factorAt_42 rfl hl (by decide) rfl (fun ls hl => ?_)
            refine lv_aload_n S.1 S.2.1 dX0_factorAt_43 rfl (lv_at hl 3 rfl) ?_
            refine gf_RX0_19 S hK hX hi dX0_factorAt_44 ?_
            refine lv_iload S.1 S.2.1 dX0_factorAt_47 (lv_at hl 1 rfl) ?_
            refine al_X10 S hK hX hi (by omega) (by omega) (z := d.1 10 i (ix x5)) rfl dX0_factorAt_49 ?_
            refine lv_iload_n S.1 S.2.1 dX0_factorAt_50 rfl (lv_at hl 4 rfl) ?_
            refine q_icmp_lt (tgt := 65) (xi := (d.1 10 i (ix x5)).toInt) (yi := p1.toInt) S rfl rfl dX0_factorAt_51 (by decide) (fun c9 => ?_) (fun c9 => ?_)
            · have hs := hs.trans (cif_t c9)
              refine lv_iinc (v := x5 + 1) (lv' := [(5, .int (x5 + 1)), (3, .int x5), (4, .int x4), (0, .ref (ad 8 i)), (1, .int p1), (2, .int p2)]) S.1 S.2.1 dX0_factorAt_65 hl (k := 1) rfl (by rfl) (by decide) rfl (fun ls hl => ?_)
              refine lv_goto (tgt := 10) S.1 S.2.1 dX0_factorAt_68 (by decide) ?_
              have e9 : ((x5 + 1)).toInt = x5.toInt + 1 := ti1 (by omega)
              exact ih10 (x5 + 1) x4 x5 (by omega) (by omega) (by omega) (by omega) (by omega) hs _ (lv_sub hl [0, 2, 1, 3, 4, 5] rfl)
            · have hs := hs.trans (cif_f c9)
              refine lv_iload S.1 S.2.1 dX0_factorAt_54 (lv_at hl 2 rfl) ?_
              refine lv_bipush (v := (-9)) S.1 S.2.1 dX0_factorAt_56 (by decide) ?_
              refine q_icmp_ne (tgt := 65) (xi := x4.toInt) (yi := (-9)) S rfl rfl dX0_factorAt_58 (by decide) (fun c10 => ?_) (fun c10 => ?_)
              · have hs := hs.trans (cif_f c10)
                refine lv_iinc (v := x5 + 1) (lv' := [(5, .int (x5 + 1)), (3, .int x5), (4, .int x4), (0, .ref (ad 8 i)), (1, .int p1), (2, .int p2)]) S.1 S.2.1 dX0_factorAt_65 hl (k := 1) rfl (by rfl) (by decide) rfl (fun ls hl => ?_)
                refine lv_goto (tgt := 10) S.1 S.2.1 dX0_factorAt_68 (by decide) ?_
                have e9 : ((x5 + 1)).toInt = x5.toInt + 1 := ti1 (by omega)
                exact ih10 (x5 + 1) x4 x5 (by omega) (by omega) (by omega) (by omega) (by omega) hs _ (lv_sub hl [0, 2, 1, 3, 4, 5] rfl)
              · have hs := hs.trans (cif_t c10)
                refine lv_iload S.1 S.2.1 dX0_factorAt_61 (lv_at hl 1 rfl) ?_
                refine lv_istore (lv' := [(4, .int x5), (3, .int x5), (5, .int x5), (0, .ref (ad 8 i)), (1, .int p1), (2, .int p2)]) S.1 S.2.1 dX0_factorAt_63 hl (by decide) rfl (fun ls hl => ?_)
                refine lv_iinc (v := x5 + 1) (lv' := [(5, .int (x5 + 1)), (4, .int x5), (3, .int x5), (0, .ref (ad 8 i)), (1, .int p1), (2, .int p2)]) S.1 S.2.1 dX0_factorAt_65 hl (k := 2) rfl (by rfl) (by decide) rfl (fun ls hl => ?_)
                refine lv_goto (tgt := 10) S.1 S.2.1 dX0_factorAt_68 (by decide) ?_
                have e9 : ((x5 + 1)).toInt = x5.toInt + 1 := ti1 (by omega)
                exact ih10 (x5 + 1) x5 x5 (by omega) (by omega) (by omega) (by omega) (by omega) hs _ (lv_sub hl [0, 1, 2, 3, 4, 5] rfl)
  exact L10 16 0 (-9) (-9) (by first | omega | (simp only [Int32.toInt_zero]; omega)) (by first | omega | (simp only [Int32.toInt_zero]; omega)) (by first | omega | (simp only [Int32.toInt_zero]; omega)) (Or.inl rfl) (Or.inl rfl) hs _ (lv_sub hl [0, 1, 2, 3, 4, 5] rfl)
set_option maxRecDepth 100000 in
set_option maxHeartbeats 8000000 in
theorem c_X1_isGood (l : Launch) (D : va_G) (G : Gc) (M T : Nat) (ad : Nat → Nat → Nat) (d : Dt) (h0 : 0 ≤ (d.1 2 0 5).toInt) (h1 : (d.1 2 0 5).toInt ≤ 12) : Met l yX1_isGood (wsU yX1_isGood cX1_isGood 6 (some .boolean)) ({ frames := 1, cells := 0, slots := 0, locals := 24 } : Room) (va_Pc [.ref (ad 2 0)] (XPre D (tysG G) (XF G M T ad) (XN M T) ad d)) (qV (some (.int (b2i (sp_X1_isGood d))))) 0 0 (fun _ => False) := by
  refine ent (by decide +kernel) (Nat.le_of_ble_eq_true rfl) ?_
  intro p e s m below meth c S hr hlk hpre ls hl
  have S : CallFix p m c cX1_isGood 6 s [.ref (ad 2 0)].toArray wsL_law RX1 := S
  obtain ⟨hK, hN, hX⟩ := hpre
  have hl : lv_has ls 6 [(0, .ref (ad 2 0))] := hl
  have hs := sp_X1_isGood.eq_1 d
  refine lv_aload_n S.1 S.2.1 dX1_isGood_0 rfl (lv_at hl 0 rfl) ?_
  refine gf_RX1_29 S hK hX (v := d.1 2 0 5) rfl dX1_isGood_1 ?_
  refine lv_iconst (v := 5) S.1 S.2.1 dX1_isGood_4 (by decide) ?_
  refine q_icmp_ge (tgt := 10) (xi := (d.1 2 0 5).toInt) (yi := 5) S rfl rfl dX1_isGood_5 (by decide) (fun c1 => ?_) (fun c1 => ?_)
  · have hs := hs.trans (cif_t c1)
    have e1 := ts1 (x := d.1 2 0 5) (by omega)
    have e2 : (d.1 2 0 5 - 5).toInt = (d.1 2 0 5).toInt - 5 := ti_sub (by rw [show (5 : Int32).toInt = 5 from rfl]; omega) (by rw [show (5 : Int32).toInt = 5 from rfl]; omega)
    refine lv_aload_n S.1 S.2.1 dX1_isGood_10 rfl (lv_at hl 0 rfl) ?_
    refine gf_RX1_25 S hK hX dX1_isGood_11 ?_
    refine lv_aload_n S.1 S.2.1 dX1_isGood_14 rfl (lv_at hl 0 rfl) ?_
    refine gf_RX1_29 S hK hX (v := d.1 2 0 5) rfl dX1_isGood_15 ?_
    refine lv_iconst (v := 1) S.1 S.2.1 dX1_isGood_18 (by decide) ?_
    refine lv_isub S.1 S.2.1 dX1_isGood_19 ?_
    refine al_X3 S hK hX (by omega) (by omega) (z := d.2 3 0 (ix ((d.1 2 0 5) - 1))) rfl dX1_isGood_20 ?_
    refine lv_lstore_n (lv' := [(1, .long (d.2 3 0 (ix ((d.1 2 0 5) - 1)))), (0, .ref (ad 2 0))]) S.1 S.2.1 dX1_isGood_21 rfl hl (by decide) rfl (fun ls hl => ?_)
    refine lv_lload_n S.1 S.2.1 dX1_isGood_22 rfl (lv_at hl 0 rfl) ?_
    refine lv_lstore_n (lv' := [(3, .long (d.2 3 0 (ix ((d.1 2 0 5) - 1)))), (1, .long (d.2 3 0 (ix ((d.1 2 0 5) - 1)))), (0, .ref (ad 2 0))]) S.1 S.2.1 dX1_isGood_23 rfl hl (by decide) rfl (fun ls hl => ?_)
    refine lv_aload_n S.1 S.2.1 dX1_isGood_24 rfl (lv_at hl 2 rfl) ?_
    refine gf_RX1_29 S hK hX (v := d.1 2 0 5) rfl dX1_isGood_25 ?_
    refine lv_iconst (v := 5) S.1 S.2.1 dX1_isGood_28 (by decide) ?_
    refine lv_isub S.1 S.2.1 dX1_isGood_29 ?_
    refine lv_istore (lv' := [(5, .int ((d.1 2 0 5) - 5)), (3, .long (d.2 3 0 (ix ((d.1 2 0 5) - 1)))), (1, .long (d.2 3 0 (ix ((d.1 2 0 5) - 1)))), (0, .ref (ad 2 0))]) S.1 S.2.1 dX1_isGood_30 hl (by decide) rfl (fun ls hl => ?_)
    have L32 : ∀ (n : Nat), ∀ (x5 : Int32) (x3 : Int64) (x1 : Int64), (d.1 2 0 5).toInt - x5.toInt < (n : Int) → 0 ≤ x5.toInt → x5.toInt ≤ (d.1 2 0 5).toInt → sp_X1_isGood d = lp_X1_isGood_32 d n x5 x3 x1 → ∀ ls : Array Slot, lv_has ls 6 [(5, .int x5), (3, .long x3), (1, .long x1), (0, .ref (ad 2 0))] → W p l e ({ frames := 1, cells := 0, slots := 0, locals := 24 } : Room) s m [.ref (ad 2 0)].toArray below meth c s.heap [] 0 0 (MQ below (qV (some (.int (b2i (sp_X1_isGood d))))) [.ref (ad 2 0)].toArray s 0 0 (fun _ => False)) (F0 m 32 ls []) := by
      intro n
      induction n with
      | zero => intro x5 x3 x1 hms v32_0 v32_1 hs ls hl; omega
      | succ n ih32 =>
        intro x5 x3 x1 hms v32_0 v32_1 hs ls hl
        have hs := hs.trans (st_X1_isGood_32.eq_1 d (lp_X1_isGood_32 d n) x5 x3 x1)
        refine lv_iload S.1 S.2.1 dX1_isGood_32 (lv_at hl 0 rfl) ?_
        refine lv_aload_n S.1 S.2.1 dX1_isGood_34 rfl (lv_at hl 3 rfl) ?_
        refine gf_RX1_29 S hK hX (v := d.1 2 0 5) rfl dX1_isGood_35 ?_
        refine q_icmp_ge (tgt := 71) (xi := x5.toInt) (yi := (d.1 2 0 5).toInt) S rfl rfl dX1_isGood_38 (by decide) (fun c2 => ?_) (fun c2 => ?_)
        · have hs := hs.trans (cif_t c2)
          refine lv_lload_n S.1 S.2.1 dX1_isGood_71 rfl (lv_at hl 2 rfl) ?_
          refine lv_lconst (v := 0) S.1 S.2.1 dX1_isGood_72 (by decide) ?_
          refine q_lcmp_le (tgt := 93) (xi := x1.toInt) (yi := 0) S rfl rfl dX1_isGood_73 dX1_isGood_74 (by decide) (fun c3 => ?_) (fun c3 => ?_)
          · have hs := hs.trans (cif_t c3)
            refine lv_iconst (v := 0) S.1 S.2.1 dX1_isGood_93 (by decide) ?_
            exact rZ S hr hlk hs b2i_F.symm dX1_isGood_94
          · have hs := hs.trans (cif_f c3)
            refine lv_ldc2 S.1 S.2.1 S.2.2.2.1 (S.2.2.2.2 _ wKL_RX1_41) dX1_isGood_77 ?_
            refine lv_lload_n S.1 S.2.1 dX1_isGood_80 rfl (lv_at hl 1 rfl) ?_
            refine lv_lload_n S.1 S.2.1 dX1_isGood_81 rfl (lv_at hl 2 rfl) ?_
            refine lv_lsub S.1 S.2.1 dX1_isGood_82 ?_
            refine lv_lmul S.1 S.2.1 dX1_isGood_83 ?_
            refine lv_lload_n S.1 S.2.1 dX1_isGood_84 rfl (lv_at hl 2 rfl) ?_
            refine q_lcmp_gt (tgt := 93) (xi := (2000 * (x3 - x1)).toInt) (yi := x1.toInt) S rfl rfl dX1_isGood_85 dX1_isGood_86 (by decide) (fun c4 => ?_) (fun c4 => ?_)
            · have hs := hs.trans (cif_t c4)
              refine lv_iconst (v := 0) S.1 S.2.1 dX1_isGood_93 (by decide) ?_
              exact rZ S hr hlk hs b2i_F.symm dX1_isGood_94
            · have hs := hs.trans (cif_f c4)
              refine lv_iconst (v := 1) S.1 S.2.1 dX1_isGood_89 (by decide) ?_
              refine lv_goto (tgt := 94) S.1 S.2.1 dX1_isGood_90 (by decide) ?_
              exact rZ S hr hlk hs b2i_T.symm dX1_isGood_94
        · have hs := hs.trans (cif_f c2)
          refine lv_lload_n S.1 S.2.1 dX1_isGood_41 rfl (lv_at hl 2 rfl) ?_
          refine lv_aload_n S.1 S.2.1 dX1_isGood_42 rfl (lv_at hl 3 rfl) ?_
          refine gf_RX1_25 S hK hX dX1_isGood_43 ?_
          refine lv_iload S.1 S.2.1 dX1_isGood_46 (lv_at hl 0 rfl) ?_
          refine al_X3 S hK hX (by omega) (by omega) (z := d.2 3 0 (ix x5)) rfl dX1_isGood_48 ?_
          refine va_mmin_long S.1 S.2.1 (S.2.2.1.trans hl.1.symm) S.2.2.2.1 (S.2.2.2.2 _ wML_RX1_32) (S.2.2.2.2 _ wST_J9_min_f86c9) (S.2.2.2.2 _ wIN_RJ9) (S.2.2.2.2 _ wCO_J9_min_f86c9) (Nat.le_of_ble_eq_true rfl) (Nat.le_of_ble_eq_true rfl) (Nat.le_of_ble_eq_true rfl) (Nat.le_of_ble_eq_true rfl) dX1_isGood_49 ?_
          refine lv_lstore_n (lv' := [(1, .long (if (d.2 3 0 (ix x5)) < x1 then (d.2 3 0 (ix x5)) else x1)), (5, .int x5), (3, .long x3), (0, .ref (ad 2 0))]) S.1 S.2.1 dX1_isGood_52 rfl hl (by decide) rfl (fun ls hl => ?_)
          refine lv_lload_n S.1 S.2.1 dX1_isGood_53 rfl (lv_at hl 2 rfl) ?_
          refine lv_aload_n S.1 S.2.1 dX1_isGood_54 rfl (lv_at hl 3 rfl) ?_
          refine gf_RX1_25 S hK hX dX1_isGood_55 ?_
          refine lv_iload S.1 S.2.1 dX1_isGood_58 (lv_at hl 1 rfl) ?_
          refine al_X3 S hK hX (by omega) (by omega) (z := d.2 3 0 (ix x5)) rfl dX1_isGood_60 ?_
          refine va_mmax_long S.1 S.2.1 (S.2.2.1.trans hl.1.symm) S.2.2.2.1 (S.2.2.2.2 _ wML_RX1_38) (S.2.2.2.2 _ wST_J9_max_f86c9) (S.2.2.2.2 _ wIN_RJ9) (S.2.2.2.2 _ wCO_J9_max_f86c9) (Nat.le_of_ble_eq_true rfl) (Nat.le_of_ble_eq_true rfl) (Nat.le_of_ble_eq_true rfl) (Nat.le_of_ble_eq_true rfl) dX1_isGood_61 ?_
          refine lv_lstore_n (lv' := [(3, .long (if (d.2 3 0 (ix x5)) < x3 then x3 else (d.2 3 0 (ix x5)))), (1, .long (if (d.2 3 0 (ix x5)) < x1 then (d.2 3 0 (ix x5)) else x1)), (5, .int x5), (0, .ref (ad 2 0))]) S.1 S.2.1 dX1_isGood_64 rfl hl (by decide) rfl (fun ls hl => ?_)
          refine lv_iinc (v := x5 + 1) (lv' := [(5, .int (x5 + 1)), (3, .long (if (d.2 3 0 (ix x5)) < x3 then x3 else (d.2 3 0 (ix x5)))), (1, .long (if (d.2 3 0 (ix x5)) < x1 then (d.2 3 0 (ix x5)) else x1)), (0, .ref (ad 2 0))]) S.1 S.2.1 dX1_isGood_65 hl (k := 2) rfl (by rfl) (by decide) rfl (fun ls hl => ?_)
          refine lv_goto (tgt := 32) S.1 S.2.1 dX1_isGood_68 (by decide) ?_
          have e9 : ((x5 + 1)).toInt = x5.toInt + 1 := ti1 (by omega)
          exact ih32 (x5 + 1) (if (d.2 3 0 (ix x5)) < x3 then x3 else (d.2 3 0 (ix x5))) (if (d.2 3 0 (ix x5)) < x1 then (d.2 3 0 (ix x5)) else x1) (by omega) (by omega) (by omega) hs _ (lv_sub hl [0, 1, 2, 3] rfl)
    exact L32 16 ((d.1 2 0 5) - 5) (d.2 3 0 (ix ((d.1 2 0 5) - 1))) (d.2 3 0 (ix ((d.1 2 0 5) - 1))) (by first | omega | (simp only [Int32.toInt_zero]; omega)) (by first | omega | (simp only [Int32.toInt_zero]; omega)) (by first | omega | (simp only [Int32.toInt_zero]; omega)) hs _ (lv_sub hl [0, 1, 2, 3] rfl)
  · have hs := hs.trans (cif_f c1)
    refine lv_iconst (v := 0) S.1 S.2.1 dX1_isGood_8 (by decide) ?_
    exact rZ S hr hlk hs b2i_F.symm dX1_isGood_9
set_option maxRecDepth 100000 in
set_option maxHeartbeats 8000000 in
theorem c_X1_factorOf (l : Launch) (D : va_G) (G : Gc) (M T : Nat) (ad : Nat → Nat → Nat) (d : Dt) (p1 : Int32) (h0 : 5 ≤ (d.1 2 0 5).toInt) (h1 : (d.1 2 0 5).toInt ≤ 12) : Met l yX1_factorOf (wsU yX1_factorOf cX1_factorOf 5 (some .long)) ({ frames := 1, cells := 0, slots := 0, locals := 24 } : Room) (va_Pc [.ref (ad 2 0), .int p1] (XPre D (tysG G) (XF G M T ad) (XN M T) ad d)) (qV (some (.long (sp_X1_factorOf d p1)))) 0 0 (fun _ => False) := by
  refine ent (by decide +kernel) (Nat.le_of_ble_eq_true rfl) ?_
  intro p e s m below meth c S hr hlk hpre ls hl
  have S : CallFix p m c cX1_factorOf 5 s [.ref (ad 2 0), .int p1].toArray wsL_law RX1 := S
  obtain ⟨hK, hN, hX⟩ := hpre
  have hl : lv_has ls 5 [(0, .ref (ad 2 0)), (1, .int p1)] := hl
  have hs := sp_X1_factorOf.eq_1 d p1
  refine lv_lconst (v := 0) S.1 S.2.1 dX1_factorOf_0 (by decide) ?_
  refine lv_lstore_n (lv' := [(2, .long 0), (0, .ref (ad 2 0)), (1, .int p1)]) S.1 S.2.1 dX1_factorOf_1 rfl hl (by decide) rfl (fun ls hl => ?_)
  refine lv_iconst (v := 0) S.1 S.2.1 dX1_factorOf_2 (by decide) ?_
  refine lv_aload_n S.1 S.2.1 dX1_factorOf_3 rfl (lv_at hl 1 rfl) ?_
  refine gf_RX1_29 S hK hX (v := d.1 2 0 5) rfl dX1_factorOf_4 ?_
  refine lv_iconst (v := 5) S.1 S.2.1 dX1_factorOf_7 (by decide) ?_
  refine lv_isub S.1 S.2.1 dX1_factorOf_8 ?_
  refine va_mmax S.1 S.2.1 (S.2.2.1.trans hl.1.symm) S.2.2.2.1 (S.2.2.2.2 _ wML_RX1_43) (S.2.2.2.2 _ wST_J9_max_7cf53) (S.2.2.2.2 _ wIN_RJ9) (S.2.2.2.2 _ wCO_J9_max_7cf53) (Nat.le_of_ble_eq_true rfl) (Nat.le_of_ble_eq_true rfl) (Nat.le_of_ble_eq_true rfl) (Nat.le_of_ble_eq_true rfl) dX1_factorOf_9 ?_
  have e2 : (d.1 2 0 5 - 5).toInt = (d.1 2 0 5).toInt - 5 := ti_sub (by rw [show (5 : Int32).toInt = 5 from rfl]; omega) (by rw [show (5 : Int32).toInt = 5 from rfl]; omega)
  have e3 := mx0 (x := d.1 2 0 5 - 5) (by omega)
  refine lv_istore (lv' := [(4, .int (if (0 : Int32) < ((d.1 2 0 5) - 5) then ((d.1 2 0 5) - 5) else 0)), (2, .long 0), (0, .ref (ad 2 0)), (1, .int p1)]) S.1 S.2.1 dX1_factorOf_12 hl (by decide) rfl (fun ls hl => ?_)
  have L14 : ∀ (n : Nat), ∀ (x4 : Int32) (x2 : Int64), (d.1 2 0 5).toInt - x4.toInt < (n : Int) → 0 ≤ x4.toInt → x4.toInt ≤ (d.1 2 0 5).toInt → sp_X1_factorOf d p1 = lp_X1_factorOf_14 d p1 n x4 x2 → ∀ ls : Array Slot, lv_has ls 5 [(4, .int x4), (2, .long x2), (0, .ref (ad 2 0)), (1, .int p1)] → W p l e ({ frames := 1, cells := 0, slots := 0, locals := 24 } : Room) s m [.ref (ad 2 0), .int p1].toArray below meth c s.heap [] 0 0 (MQ below (qV (some (.long (sp_X1_factorOf d p1)))) [.ref (ad 2 0), .int p1].toArray s 0 0 (fun _ => False)) (F0 m 14 ls []) := by
    intro n
    induction n with
    | zero => intro x4 x2 hms v14_0 v14_1 hs ls hl; omega
    | succ n ih14 =>
      intro x4 x2 hms v14_0 v14_1 hs ls hl
      have hs := hs.trans (st_X1_factorOf_14.eq_1 d p1 (lp_X1_factorOf_14 d p1 n) x4 x2)
      refine lv_iload S.1 S.2.1 dX1_factorOf_14 (lv_at hl 0 rfl) ?_
      refine lv_aload_n S.1 S.2.1 dX1_factorOf_16 rfl (lv_at hl 2 rfl) ?_
      refine gf_RX1_29 S hK hX (v := d.1 2 0 5) rfl dX1_factorOf_17 ?_
      refine q_icmp_ge (tgt := 39) (xi := x4.toInt) (yi := (d.1 2 0 5).toInt) S rfl rfl dX1_factorOf_20 (by decide) (fun c1 => ?_) (fun c1 => ?_)
      · have hs := hs.trans (cif_t c1)
        refine lv_ldc2 S.1 S.2.1 S.2.2.2.1 (S.2.2.2.2 _ wKL_RX1_46) dX1_factorOf_39 ?_
        refine lv_aload_n S.1 S.2.1 dX1_factorOf_42 rfl (lv_at hl 2 rfl) ?_
        refine gf_RX1_22 S hK hX (v := d.1 2 0 3) rfl dX1_factorOf_43 ?_
        refine lv_i2l S.1 S.2.1 dX1_factorOf_46 rfl ?_
        refine lv_lmul S.1 S.2.1 dX1_factorOf_47 ?_
        refine lv_iload_n S.1 S.2.1 dX1_factorOf_48 rfl (lv_at hl 3 rfl) ?_
        refine lv_i2l S.1 S.2.1 dX1_factorOf_49 rfl ?_
        refine lv_lmul S.1 S.2.1 dX1_factorOf_50 ?_
        refine lv_lload_n S.1 S.2.1 dX1_factorOf_51 rfl (lv_at hl 1 rfl) ?_
        refine cPSN (rest := []) S (c_X4_rounded l ((500 * ((d.1 2 0 3).toInt64)) * p1.toInt64) x2) (NW.l_RX1_48 hN) wST_X4_rounded wIN_RX4 wCO_X4_rounded ds_X4_rounded.2 ⟨rfl, rfl⟩ ⟨Nat.le_of_ble_eq_true rfl, Nat.le_of_ble_eq_true rfl⟩ rfl hl.1 rfl (Nat.le_of_ble_eq_true rfl) ⟨Nat.le_of_ble_eq_true rfl, Nat.le_of_ble_eq_true rfl⟩ dX1_factorOf_52 ?_
        exact rL S hr hlk hs dX1_factorOf_55
      · have hs := hs.trans (cif_f c1)
        refine lv_lload_n S.1 S.2.1 dX1_factorOf_23 rfl (lv_at hl 1 rfl) ?_
        refine lv_aload_n S.1 S.2.1 dX1_factorOf_24 rfl (lv_at hl 2 rfl) ?_
        refine gf_RX1_25 S hK hX dX1_factorOf_25 ?_
        refine lv_iload S.1 S.2.1 dX1_factorOf_28 (lv_at hl 0 rfl) ?_
        refine al_X3 S hK hX (by omega) (by omega) (z := d.2 3 0 (ix x4)) rfl dX1_factorOf_30 ?_
        refine lv_ladd S.1 S.2.1 dX1_factorOf_31 ?_
        refine lv_lstore_n (lv' := [(2, .long (x2 + (d.2 3 0 (ix x4)))), (4, .int x4), (0, .ref (ad 2 0)), (1, .int p1)]) S.1 S.2.1 dX1_factorOf_32 rfl hl (by decide) rfl (fun ls hl => ?_)
        refine lv_iinc (v := x4 + 1) (lv' := [(4, .int (x4 + 1)), (2, .long (x2 + (d.2 3 0 (ix x4)))), (0, .ref (ad 2 0)), (1, .int p1)]) S.1 S.2.1 dX1_factorOf_33 hl (k := 1) rfl (by rfl) (by decide) rfl (fun ls hl => ?_)
        refine lv_goto (tgt := 14) S.1 S.2.1 dX1_factorOf_36 (by decide) ?_
        have e9 : ((x4 + 1)).toInt = x4.toInt + 1 := ti1 (by omega)
        exact ih14 (x4 + 1) (x2 + (d.2 3 0 (ix x4))) (by omega) (by omega) (by omega) hs _ (lv_sub hl [0, 1, 2, 3] rfl)
  exact L14 16 (if (0 : Int32) < ((d.1 2 0 5) - 5) then ((d.1 2 0 5) - 5) else 0) 0 (by first | omega | (simp only [Int32.toInt_zero]; omega)) (by first | omega | (simp only [Int32.toInt_zero]; omega)) (by first | omega | (simp only [Int32.toInt_zero]; omega)) hs _ (lv_sub hl [0, 1, 2, 3] rfl)
set_option maxRecDepth 100000 in
set_option maxHeartbeats 8000000 in
theorem c_X2_hasCell (l : Launch) (D : va_G) (G : Gc) (M T : Nat) (ad : Nat → Nat → Nat) (d : Dt) (i : Nat) (p1 : Int32) (hi : i < 4) : Met l yX2_hasCell (wsU yX2_hasCell cX2_hasCell 2 (some .boolean)) ({ frames := 1, cells := 0, slots := 0, locals := 22 } : Room) (va_Pc [.ref (ad 6 i), .int p1] (XPre D (tysG G) (XF G M T ad) (XN M T) ad d)) (qV (some (.int (b2i (sp_X2_hasCell d i p1))))) 0 0 (fun _ => False) := by
  refine ent (by decide +kernel) (Nat.le_of_ble_eq_true rfl) ?_
  intro p e s m below meth c S hr hlk hpre ls hl
  have S : CallFix p m c cX2_hasCell 2 s [.ref (ad 6 i), .int p1].toArray wsL_law RX2 := S
  obtain ⟨hK, hN, hX⟩ := hpre
  have hl : lv_has ls 2 [(0, .ref (ad 6 i)), (1, .int p1)] := hl
  have hs := sp_X2_hasCell.eq_1 d i p1
  refine lv_iload_n S.1 S.2.1 dX2_hasCell_0 rfl (lv_at hl 1 rfl) ?_
  refine lv_iconst (v := 0) S.1 S.2.1 dX2_hasCell_1 (by decide) ?_
  refine lv_aload_n S.1 S.2.1 dX2_hasCell_2 rfl (lv_at hl 0 rfl) ?_
  refine gf_RX2_23 S hK hX hi (v := d.1 6 i 3) rfl dX2_hasCell_3 ?_
  refine lv_iconst (v := 1) S.1 S.2.1 dX2_hasCell_6 (by decide) ?_
  refine lv_isub S.1 S.2.1 dX2_hasCell_7 ?_
  refine cPSN (rest := []) S (c_X4_isWithin l p1 0 ((d.1 6 i 3) - 1)) (NW.l_RX2_32 hN) wST_X4_isWithin wIN_RX4 wCO_X4_isWithin ds_X4_isWithin.2 ⟨rfl, rfl⟩ ⟨Nat.le_of_ble_eq_true rfl, Nat.le_of_ble_eq_true rfl⟩ rfl hl.1 rfl (Nat.le_of_ble_eq_true rfl) ⟨Nat.le_of_ble_eq_true rfl, Nat.le_of_ble_eq_true rfl⟩ dX2_hasCell_8 ?_
  exact rZ S hr hlk hs rfl dX2_hasCell_11
set_option maxRecDepth 100000 in
set_option maxHeartbeats 8000000 in
theorem c_X2_hasCells (l : Launch) (D : va_G) (G : Gc) (M T : Nat) (ad : Nat → Nat → Nat) (d : Dt) (i : Nat) (p1 : Int32) (p2 : Int32) (hi : i < 4) : Met l yX2_hasCells (wsU yX2_hasCells cX2_hasCells 3 (some .boolean)) ({ frames := 1, cells := 0, slots := 0, locals := 22 } : Room) (va_Pc [.ref (ad 6 i), .int p1, .int p2] (XPre D (tysG G) (XF G M T ad) (XN M T) ad d)) (qV (some (.int (b2i (sp_X2_hasCells d i p1 p2))))) 0 0 (fun _ => False) := by
  refine ent (by decide +kernel) (Nat.le_of_ble_eq_true rfl) ?_
  intro p e s m below meth c S hr hlk hpre ls hl
  have S : CallFix p m c cX2_hasCells 3 s [.ref (ad 6 i), .int p1, .int p2].toArray wsL_law RX2 := S
  obtain ⟨hK, hN, hX⟩ := hpre
  have hl : lv_has ls 3 [(0, .ref (ad 6 i)), (1, .int p1), (2, .int p2)] := hl
  have hs := sp_X2_hasCells.eq_1 d i p1 p2
  refine lv_iload_n S.1 S.2.1 dX2_hasCells_0 rfl (lv_at hl 1 rfl) ?_
  refine lv_iconst (v := 0) S.1 S.2.1 dX2_hasCells_1 (by decide) ?_
  refine lv_aload_n S.1 S.2.1 dX2_hasCells_2 rfl (lv_at hl 0 rfl) ?_
  refine gf_RX2_23 S hK hX hi (v := d.1 6 i 3) rfl dX2_hasCells_3 ?_
  refine cPSN (rest := []) S (c_X4_isWithin l p1 0 (d.1 6 i 3)) (NW.l_RX2_32 hN) wST_X4_isWithin wIN_RX4 wCO_X4_isWithin ds_X4_isWithin.2 ⟨rfl, rfl⟩ ⟨Nat.le_of_ble_eq_true rfl, Nat.le_of_ble_eq_true rfl⟩ rfl hl.1 rfl (Nat.le_of_ble_eq_true rfl) ⟨Nat.le_of_ble_eq_true rfl, Nat.le_of_ble_eq_true rfl⟩ dX2_hasCells_6 ?_
  refine q_if_eq_b (tgt := 30) S dX2_hasCells_9 (by decide) (fun c1 => ?_) (fun c1 => ?_)
  · have hs := hs.trans (cif_f c1)
    refine lv_iconst (v := 0) S.1 S.2.1 dX2_hasCells_30 (by decide) ?_
    exact rZ S hr hlk hs b2i_F.symm dX2_hasCells_31
  · have hs := hs.trans (cif_t c1)
    refine lv_iload_n S.1 S.2.1 dX2_hasCells_12 rfl (lv_at hl 2 rfl) ?_
    refine lv_iconst (v := 0) S.1 S.2.1 dX2_hasCells_13 (by decide) ?_
    refine lv_aload_n S.1 S.2.1 dX2_hasCells_14 rfl (lv_at hl 0 rfl) ?_
    refine gf_RX2_23 S hK hX hi (v := d.1 6 i 3) rfl dX2_hasCells_15 ?_
    refine lv_iload_n S.1 S.2.1 dX2_hasCells_18 rfl (lv_at hl 1 rfl) ?_
    refine lv_isub S.1 S.2.1 dX2_hasCells_19 ?_
    refine cPSN (rest := []) S (c_X4_isWithin l p2 0 ((d.1 6 i 3) - p1)) (NW.l_RX2_32 hN) wST_X4_isWithin wIN_RX4 wCO_X4_isWithin ds_X4_isWithin.2 ⟨rfl, rfl⟩ ⟨Nat.le_of_ble_eq_true rfl, Nat.le_of_ble_eq_true rfl⟩ rfl hl.1 rfl (Nat.le_of_ble_eq_true rfl) ⟨Nat.le_of_ble_eq_true rfl, Nat.le_of_ble_eq_true rfl⟩ dX2_hasCells_20 ?_
    refine q_if_eq_b (tgt := 30) S dX2_hasCells_23 (by decide) (fun c2 => ?_) (fun c2 => ?_)
    · have hs := hs.trans (cif_f c2)
      refine lv_iconst (v := 0) S.1 S.2.1 dX2_hasCells_30 (by decide) ?_
      exact rZ S hr hlk hs b2i_F.symm dX2_hasCells_31
    · have hs := hs.trans (cif_t c2)
      refine lv_iconst (v := 1) S.1 S.2.1 dX2_hasCells_26 (by decide) ?_
      refine lv_goto (tgt := 31) S.1 S.2.1 dX2_hasCells_27 (by decide) ?_
      exact rZ S hr hlk hs b2i_T.symm dX2_hasCells_31
set_option maxRecDepth 100000 in
set_option maxHeartbeats 8000000 in
theorem c_X3_counts (l : Launch) (D : va_G) (G : Gc) (M T : Nat) (ad : Nat → Nat → Nat) (d : Dt) (i : Nat) (p1 : Int32) (p2 : Int32) (p3 : Int32) (hi : i < T) : Met l yX3_counts (wsU yX3_counts cX3_counts 4 (some .boolean)) ({ frames := 1, cells := 0, slots := 0, locals := 22 } : Room) (va_Pc [.ref (ad 13 i), .int p1, .int p2, .int p3] (XPre D (tysG G) (XF G M T ad) (XN M T) ad d)) (qV (some (.int (b2i (sp_X3_counts d i p1 p2 p3))))) 0 0 (fun _ => False) := by
  refine ent (by decide +kernel) (Nat.le_of_ble_eq_true rfl) ?_
  intro p e s m below meth c S hr hlk hpre ls hl
  have S : CallFix p m c cX3_counts 4 s [.ref (ad 13 i), .int p1, .int p2, .int p3].toArray wsL_law RX3 := S
  obtain ⟨hK, hN, hX⟩ := hpre
  have hl : lv_has ls 4 [(0, .ref (ad 13 i)), (1, .int p1), (2, .int p2), (3, .int p3)] := hl
  have hs := sp_X3_counts.eq_1 d i p1 p2 p3
  refine lv_aload_n S.1 S.2.1 dX3_counts_0 rfl (lv_at hl 0 rfl) ?_
  refine gf_RX3_21 S hK hX hi (v := d.1 13 i 0) rfl dX3_counts_1 ?_
  refine lv_iload_n S.1 S.2.1 dX3_counts_4 rfl (lv_at hl 1 rfl) ?_
  refine q_icmp_ne (tgt := 31) (xi := (d.1 13 i 0).toInt) (yi := p1.toInt) S rfl rfl dX3_counts_5 (by decide) (fun c1 => ?_) (fun c1 => ?_)
  · have hs := hs.trans (cif_f c1)
    refine lv_iconst (v := 0) S.1 S.2.1 dX3_counts_31 (by decide) ?_
    exact rZ S hr hlk hs b2i_F.symm dX3_counts_32
  · have hs := hs.trans (cif_t c1)
    refine lv_aload_n S.1 S.2.1 dX3_counts_8 rfl (lv_at hl 0 rfl) ?_
    refine gf_RX3_24 S hK hX hi (v := d.1 13 i 1) rfl dX3_counts_9 ?_
    refine lv_iload_n S.1 S.2.1 dX3_counts_12 rfl (lv_at hl 2 rfl) ?_
    refine lv_iload_n S.1 S.2.1 dX3_counts_13 rfl (lv_at hl 3 rfl) ?_
    refine cPSN (rest := []) S (c_X4_isWithin l (d.1 13 i 1) p2 p3) (NW.l_RX3_36 hN) wST_X4_isWithin wIN_RX4 wCO_X4_isWithin ds_X4_isWithin.2 ⟨rfl, rfl⟩ ⟨Nat.le_of_ble_eq_true rfl, Nat.le_of_ble_eq_true rfl⟩ rfl hl.1 rfl (Nat.le_of_ble_eq_true rfl) ⟨Nat.le_of_ble_eq_true rfl, Nat.le_of_ble_eq_true rfl⟩ dX3_counts_14 ?_
    refine q_if_eq_b (tgt := 31) S dX3_counts_17 (by decide) (fun c2 => ?_) (fun c2 => ?_)
    · have hs := hs.trans (cif_f c2)
      refine lv_iconst (v := 0) S.1 S.2.1 dX3_counts_31 (by decide) ?_
      exact rZ S hr hlk hs b2i_F.symm dX3_counts_32
    · have hs := hs.trans (cif_t c2)
      refine lv_aload_n S.1 S.2.1 dX3_counts_20 rfl (lv_at hl 0 rfl) ?_
      refine cPV (rest := []) S (c_X3_isReplaced l D G M T ad d i hi) gV_RX3_40 ds_X3_isReplaced ⟨rfl, rfl⟩ ⟨Nat.le_of_ble_eq_true rfl, Nat.le_of_ble_eq_true rfl⟩ ⟨blindX, recvX hK hX (k := 13) (i := i) hi rfl rfl, preX hK hN hX _⟩ rfl hl.1 rfl (Nat.le_of_ble_eq_true rfl) ⟨Nat.le_of_ble_eq_true rfl, Nat.le_of_ble_eq_true rfl⟩ dX3_counts_21 ?_
      refine q_if_ne_b (tgt := 31) S dX3_counts_24 (by decide) (fun c3 => ?_) (fun c3 => ?_)
      · have hs := hs.trans (cif_t c3)
        refine lv_iconst (v := 0) S.1 S.2.1 dX3_counts_31 (by decide) ?_
        exact rZ S hr hlk hs b2i_F.symm dX3_counts_32
      · have hs := hs.trans (cif_f c3)
        refine lv_iconst (v := 1) S.1 S.2.1 dX3_counts_27 (by decide) ?_
        refine lv_goto (tgt := 32) S.1 S.2.1 dX3_counts_28 (by decide) ?_
        exact rZ S hr hlk hs b2i_T.symm dX3_counts_32
set_option maxRecDepth 100000 in
set_option maxHeartbeats 8000000 in
theorem c_X2_watched (l : Launch) (D : va_G) (G : Gc) (M T : Nat) (ad : Nat → Nat → Nat) (d : Dt) (i : Nat) (p1 : Int32) (p2 : Int32) (p3 : Int32) (hi : i < 4) (h0 : 0 ≤ p1.toInt) (h1 : 0 ≤ p2.toInt) (h2 : p1.toInt + p2.toInt ≤ 60) : Met l yX2_watched (wsU yX2_watched cX2_watched 11 (some .int)) ({ frames := 0, cells := 0, slots := 0, locals := 0 } : Room) (va_Pc [.ref (ad 6 i), .int p1, .int p2, .int p3] (XPre D (tysG G) (XF G M T ad) (XN M T) ad d)) (qV (some (.int (sp_X2_watched d i p1 p2 p3)))) 0 0 (fun _ => False) := by
  refine ent (by decide +kernel) (Nat.le_of_ble_eq_true rfl) ?_
  intro p e s m below meth c S hr hlk hpre ls hl
  have S : CallFix p m c cX2_watched 11 s [.ref (ad 6 i), .int p1, .int p2, .int p3].toArray wsL_law RX2 := S
  obtain ⟨hK, hN, hX⟩ := hpre
  have hl : lv_has ls 11 [(0, .ref (ad 6 i)), (1, .int p1), (2, .int p2), (3, .int p3)] := hl
  have hs := sp_X2_watched.eq_1 d i p1 p2 p3
  have e1 : (p1 + p2).toInt = p1.toInt + p2.toInt := ti_add (by omega) (by omega)
  refine lv_iconst (v := 0) S.1 S.2.1 dX2_watched_0 (by decide) ?_
  refine lv_istore (lv' := [(4, .int 0), (0, .ref (ad 6 i)), (1, .int p1), (2, .int p2), (3, .int p3)]) S.1 S.2.1 dX2_watched_1 hl (by decide) rfl (fun ls hl => ?_)
  refine lv_iconst (v := 0) S.1 S.2.1 dX2_watched_3 (by decide) ?_
  refine lv_istore (lv' := [(5, .int 0), (4, .int 0), (0, .ref (ad 6 i)), (1, .int p1), (2, .int p2), (3, .int p3)]) S.1 S.2.1 dX2_watched_4 hl (by decide) rfl (fun ls hl => ?_)
  refine lv_iconst (v := 0) S.1 S.2.1 dX2_watched_6 (by decide) ?_
  refine lv_istore (lv' := [(6, .int 0), (5, .int 0), (4, .int 0), (0, .ref (ad 6 i)), (1, .int p1), (2, .int p2), (3, .int p3)]) S.1 S.2.1 dX2_watched_7 hl (by decide) rfl (fun ls hl => ?_)
  refine lv_iconst (v := 0) S.1 S.2.1 dX2_watched_9 (by decide) ?_
  refine lv_istore (lv' := [(7, .int 0), (6, .int 0), (5, .int 0), (4, .int 0), (0, .ref (ad 6 i)), (1, .int p1), (2, .int p2), (3, .int p3)]) S.1 S.2.1 dX2_watched_10 hl (by decide) rfl (fun ls hl => ?_)
  refine lv_iconst (v := 0) S.1 S.2.1 dX2_watched_12 (by decide) ?_
  refine lv_istore (lv' := [(8, .int 0), (7, .int 0), (6, .int 0), (5, .int 0), (4, .int 0), (0, .ref (ad 6 i)), (1, .int p1), (2, .int p2), (3, .int p3)]) S.1 S.2.1 dX2_watched_13 hl (by decide) rfl (fun ls hl => ?_)
  refine lv_iload_n S.1 S.2.1 dX2_watched_15 rfl (lv_at hl 6 rfl) ?_
  refine lv_istore (lv' := [(9, .int p1), (8, .int 0), (7, .int 0), (6, .int 0), (5, .int 0), (4, .int 0), (0, .ref (ad 6 i)), (1, .int p1), (2, .int p2), (3, .int p3)]) S.1 S.2.1 dX2_watched_16 hl (by decide) rfl (fun ls hl => ?_)
  have L18 : ∀ (n : Nat), ∀ (x9 : Int32) (x8 : Int32) (x7 : Int32) (x6 : Int32) (x5 : Int32) (x4 : Int32), (p1 + p2).toInt - x9.toInt < (n : Int) → 0 ≤ x9.toInt → x9.toInt ≤ (p1 + p2).toInt → sp_X2_watched d i p1 p2 p3 = lp_X2_watched_18 d i p1 p2 p3 n x9 x8 x7 x6 x5 x4 → ∀ ls : Array Slot, lv_has ls 11 [(9, .int x9), (8, .int x8), (7, .int x7), (6, .int x6), (5, .int x5), (4, .int x4), (0, .ref (ad 6 i)), (1, .int p1), (2, .int p2), (3, .int p3)] → W p l e ({ frames := 0, cells := 0, slots := 0, locals := 0 } : Room) s m [.ref (ad 6 i), .int p1, .int p2, .int p3].toArray below meth c s.heap [] 0 0 (MQ below (qV (some (.int (sp_X2_watched d i p1 p2 p3)))) [.ref (ad 6 i), .int p1, .int p2, .int p3].toArray s 0 0 (fun _ => False)) (F0 m 18 ls []) := by
    intro n
    induction n with
    | zero => intro x9 x8 x7 x6 x5 x4 hms v18_0 v18_1 hs ls hl; omega
    | succ n ih18 =>
      intro x9 x8 x7 x6 x5 x4 hms v18_0 v18_1 hs ls hl
      have hs := hs.trans (st_X2_watched_18.eq_1 d i p1 p2 p3 (lp_X2_watched_18 d i p1 p2 p3 n) x9 x8 x7 x6 x5 x4)
      refine lv_iload S.1 S.2.1 dX2_watched_18 (lv_at hl 0 rfl) ?_
      refine lv_iload_n S.1 S.2.1 dX2_watched_20 rfl (lv_at hl 7 rfl) ?_
      refine lv_iload_n S.1 S.2.1 dX2_watched_21 rfl (lv_at hl 8 rfl) ?_
      refine lv_iadd S.1 S.2.1 dX2_watched_22 ?_
      refine q_icmp_ge (tgt := 99) (xi := x9.toInt) (yi := (p1 + p2).toInt) S rfl rfl dX2_watched_23 (by decide) (fun c1 => ?_) (fun c1 => ?_)
      · have hs := hs.trans (cif_t c1)
        refine lv_iload_n S.1 S.2.1 dX2_watched_99 rfl (lv_at hl 9 rfl) ?_
        by_cases c2 : p3.toInt = 0
        · have hs := hs.trans (cif_t c2)
          refine lv_tableIn (tgt := 128) (off := 28) S.1 S.2.1 dX2_watched_100 (by show ¬ p3.toInt < (0 : Int); omega) (by show ¬ (2 : Int) < p3.toInt; omega) (by rw [c2]; rfl) (by decide) ?_
          refine lv_iload S.1 S.2.1 dX2_watched_128 (lv_at hl 5 rfl) ?_
          exact rI S hr hlk hs dX2_watched_130
        · have hs := hs.trans (cif_f c2)
          by_cases c3 : p3.toInt = 1
          · have hs := hs.trans (cif_t c3)
            refine lv_tableIn (tgt := 131) (off := 31) S.1 S.2.1 dX2_watched_100 (by show ¬ p3.toInt < (0 : Int); omega) (by show ¬ (2 : Int) < p3.toInt; omega) (by rw [c3]; rfl) (by decide) ?_
            refine lv_iload S.1 S.2.1 dX2_watched_131 (lv_at hl 4 rfl) ?_
            exact rI S hr hlk hs dX2_watched_133
          · have hs := hs.trans (cif_f c3)
            by_cases c4 : p3.toInt = 2
            · have hs := hs.trans (cif_t c4)
              refine lv_tableIn (tgt := 134) (off := 34) S.1 S.2.1 dX2_watched_100 (by show ¬ p3.toInt < (0 : Int); omega) (by show ¬ (2 : Int) < p3.toInt; omega) (by rw [c4]; rfl) (by decide) ?_
              refine lv_iload S.1 S.2.1 dX2_watched_134 (lv_at hl 3 rfl) ?_
              exact rI S hr hlk hs dX2_watched_136
            · have hs := hs.trans (cif_f c4)
              refine lv_tableOut (tgt := 137) S.1 S.2.1 dX2_watched_100 (by show p3.toInt < (0 : Int) ∨ (2 : Int) < p3.toInt; omega) (by decide) ?_
              refine lv_iload S.1 S.2.1 dX2_watched_137 (lv_at hl 5 rfl) ?_
              refine lv_iload S.1 S.2.1 dX2_watched_139 (lv_at hl 4 rfl) ?_
              refine lv_iadd S.1 S.2.1 dX2_watched_141 ?_
              refine lv_iload S.1 S.2.1 dX2_watched_142 (lv_at hl 3 rfl) ?_
              refine lv_isub S.1 S.2.1 dX2_watched_144 ?_
              exact rI S hr hlk hs dX2_watched_145
      · have hs := hs.trans (cif_f c1)
        refine lv_aload_n S.1 S.2.1 dX2_watched_26 rfl (lv_at hl 6 rfl) ?_
        refine gf_RX2_9 S hK hX hi dX2_watched_27 ?_
        refine lv_iload S.1 S.2.1 dX2_watched_30 (lv_at hl 0 rfl) ?_
        refine al_X7 S hK hX hi (by omega) (by omega) (z := d.1 7 i (ix x9)) rfl dX2_watched_32 ?_
        refine lv_istore (lv' := [(10, .int (d.1 7 i (ix x9))), (9, .int x9), (8, .int x8), (7, .int x7), (6, .int x6), (5, .int x5), (4, .int x4), (0, .ref (ad 6 i)), (1, .int p1), (2, .int p2), (3, .int p3)]) S.1 S.2.1 dX2_watched_33 hl (by decide) rfl (fun ls hl => ?_)
        refine lv_iload S.1 S.2.1 dX2_watched_35 (lv_at hl 0 rfl) ?_
        refine lv_iconst (v := 1) S.1 S.2.1 dX2_watched_37 (by decide) ?_
        refine q_icmp_eq (tgt := 47) (xi := (d.1 7 i (ix x9)).toInt) (yi := 1) S rfl rfl dX2_watched_38 (by decide) (fun c6 => ?_) (fun c6 => ?_)
        · have hs := hs.trans (cif_t c6)
          refine lv_iinc (v := x4 + 1) (lv' := [(4, .int (x4 + 1)), (10, .int (d.1 7 i (ix x9))), (9, .int x9), (8, .int x8), (7, .int x7), (6, .int x6), (5, .int x5), (0, .ref (ad 6 i)), (1, .int p1), (2, .int p2), (3, .int p3)]) S.1 S.2.1 dX2_watched_47 hl (k := 6) rfl (by rfl) (by decide) rfl (fun ls hl => ?_)
          refine lv_iload S.1 S.2.1 dX2_watched_50 (lv_at hl 1 rfl) ?_
          refine lv_iload S.1 S.2.1 dX2_watched_52 (lv_at hl 3 rfl) ?_
          refine q_icmp_ne (tgt := 64) (xi := (d.1 7 i (ix x9)).toInt) (yi := x8.toInt) S rfl rfl dX2_watched_54 (by decide) (fun c7 => ?_) (fun c7 => ?_)
          · have hs := hs.trans (cif_f c7)
            refine lv_iconst (v := 0) S.1 S.2.1 dX2_watched_64 (by decide) ?_
            refine lv_istore (lv' := [(7, .int 0), (4, .int (x4 + 1)), (10, .int (d.1 7 i (ix x9))), (9, .int x9), (8, .int x8), (6, .int x6), (5, .int x5), (0, .ref (ad 6 i)), (1, .int p1), (2, .int p2), (3, .int p3)]) S.1 S.2.1 dX2_watched_65 hl (by decide) rfl (fun ls hl => ?_)
            refine lv_iload S.1 S.2.1 dX2_watched_67 (lv_at hl 2 rfl) ?_
            refine lv_istore (lv' := [(8, .int (d.1 7 i (ix x9))), (7, .int 0), (4, .int (x4 + 1)), (10, .int (d.1 7 i (ix x9))), (9, .int x9), (6, .int x6), (5, .int x5), (0, .ref (ad 6 i)), (1, .int p1), (2, .int p2), (3, .int p3)]) S.1 S.2.1 dX2_watched_69 hl (by decide) rfl (fun ls hl => ?_)
            refine lv_iload S.1 S.2.1 dX2_watched_71 (lv_at hl 1 rfl) ?_
            refine lv_iconst (v := 2) S.1 S.2.1 dX2_watched_73 (by decide) ?_
            refine lv_irem S.1 S.2.1 dX2_watched_74 (by decide) (q_to (by decide : (0 - 0 / 2 * 2 : Int32) = 0) ?_)
            refine lv_iconst (v := 1) S.1 S.2.1 dX2_watched_75 (by decide) ?_
            refine q_icmp_ne (tgt := 85) (xi := 0) (yi := 1) S rfl rfl dX2_watched_76 (by decide) (fun c8 => ?_) (fun c8 => absurd c8 (by omega))
            refine lv_iload S.1 S.2.1 dX2_watched_85 (lv_at hl 1 rfl) ?_
            refine q_if_le (tgt := 93) (xi := 0) S rfl dX2_watched_87 (by decide) (fun c9 => ?_) (fun c9 => absurd (by omega) c9)
            refine lv_iinc (v := x9 + 1) (lv' := [(9, .int (x9 + 1)), (8, .int (d.1 7 i (ix x9))), (7, .int 0), (4, .int (x4 + 1)), (10, .int (d.1 7 i (ix x9))), (6, .int x6), (5, .int x5), (0, .ref (ad 6 i)), (1, .int p1), (2, .int p2), (3, .int p3)]) S.1 S.2.1 dX2_watched_93 hl (k := 4) rfl (by rfl) (by decide) rfl (fun ls hl => ?_)
            refine lv_goto (tgt := 18) S.1 S.2.1 dX2_watched_96 (by decide) ?_
            have e9 : ((x9 + 1)).toInt = x9.toInt + 1 := ti1 (by omega)
            exact ih18 (x9 + 1) (d.1 7 i (ix x9)) 0 x6 x5 (x4 + 1) (by omega) (by omega) (by omega) hs _ (lv_sub hl [0, 1, 2, 5, 6, 3, 7, 8, 9, 10] rfl)
          · have hs := hs.trans (cif_t c7)
            refine lv_iload S.1 S.2.1 dX2_watched_57 (lv_at hl 4 rfl) ?_
            refine lv_iconst (v := 1) S.1 S.2.1 dX2_watched_59 (by decide) ?_
            refine lv_iadd S.1 S.2.1 dX2_watched_60 ?_
            refine lv_goto (tgt := 65) S.1 S.2.1 dX2_watched_61 (by decide) ?_
            refine lv_istore (lv' := [(7, .int (x7 + 1)), (4, .int (x4 + 1)), (10, .int (d.1 7 i (ix x9))), (9, .int x9), (8, .int x8), (6, .int x6), (5, .int x5), (0, .ref (ad 6 i)), (1, .int p1), (2, .int p2), (3, .int p3)]) S.1 S.2.1 dX2_watched_65 hl (by decide) rfl (fun ls hl => ?_)
            refine lv_iload S.1 S.2.1 dX2_watched_67 (lv_at hl 2 rfl) ?_
            refine lv_istore (lv' := [(8, .int (d.1 7 i (ix x9))), (7, .int (x7 + 1)), (4, .int (x4 + 1)), (10, .int (d.1 7 i (ix x9))), (9, .int x9), (6, .int x6), (5, .int x5), (0, .ref (ad 6 i)), (1, .int p1), (2, .int p2), (3, .int p3)]) S.1 S.2.1 dX2_watched_69 hl (by decide) rfl (fun ls hl => ?_)
            refine lv_iload S.1 S.2.1 dX2_watched_71 (lv_at hl 1 rfl) ?_
            refine lv_iconst (v := 2) S.1 S.2.1 dX2_watched_73 (by decide) ?_
            refine lv_irem S.1 S.2.1 dX2_watched_74 (by decide) ?_
            refine lv_iconst (v := 1) S.1 S.2.1 dX2_watched_75 (by decide) ?_
            refine q_icmp_ne (tgt := 85) (xi := ((x7 + 1) - (x7 + 1) / 2 * 2).toInt) (yi := 1) S rfl rfl dX2_watched_76 (by decide) (fun c10 => ?_) (fun c10 => ?_)
            · have hs := hs.trans (cif_f c10)
              refine lv_iload S.1 S.2.1 dX2_watched_85 (lv_at hl 1 rfl) ?_
              refine q_if_le (tgt := 93) (xi := (x7 + 1).toInt) S rfl dX2_watched_87 (by decide) (fun c11 => ?_) (fun c11 => ?_)
              · have hs := hs.trans (cif_t c11)
                refine lv_iinc (v := x9 + 1) (lv' := [(9, .int (x9 + 1)), (8, .int (d.1 7 i (ix x9))), (7, .int (x7 + 1)), (4, .int (x4 + 1)), (10, .int (d.1 7 i (ix x9))), (6, .int x6), (5, .int x5), (0, .ref (ad 6 i)), (1, .int p1), (2, .int p2), (3, .int p3)]) S.1 S.2.1 dX2_watched_93 hl (k := 4) rfl (by rfl) (by decide) rfl (fun ls hl => ?_)
                refine lv_goto (tgt := 18) S.1 S.2.1 dX2_watched_96 (by decide) ?_
                have e9 : ((x9 + 1)).toInt = x9.toInt + 1 := ti1 (by omega)
                exact ih18 (x9 + 1) (d.1 7 i (ix x9)) (x7 + 1) x6 x5 (x4 + 1) (by omega) (by omega) (by omega) hs _ (lv_sub hl [0, 1, 2, 5, 6, 3, 7, 8, 9, 10] rfl)
              · have hs := hs.trans (cif_f c11)
                refine lv_iinc (v := x6 + 1) (lv' := [(6, .int (x6 + 1)), (8, .int (d.1 7 i (ix x9))), (7, .int (x7 + 1)), (4, .int (x4 + 1)), (10, .int (d.1 7 i (ix x9))), (9, .int x9), (5, .int x5), (0, .ref (ad 6 i)), (1, .int p1), (2, .int p2), (3, .int p3)]) S.1 S.2.1 dX2_watched_90 hl (k := 5) rfl (by rfl) (by decide) rfl (fun ls hl => ?_)
                refine lv_iinc (v := x9 + 1) (lv' := [(9, .int (x9 + 1)), (6, .int (x6 + 1)), (8, .int (d.1 7 i (ix x9))), (7, .int (x7 + 1)), (4, .int (x4 + 1)), (10, .int (d.1 7 i (ix x9))), (5, .int x5), (0, .ref (ad 6 i)), (1, .int p1), (2, .int p2), (3, .int p3)]) S.1 S.2.1 dX2_watched_93 hl (k := 5) rfl (by rfl) (by decide) rfl (fun ls hl => ?_)
                refine lv_goto (tgt := 18) S.1 S.2.1 dX2_watched_96 (by decide) ?_
                have e9 : ((x9 + 1)).toInt = x9.toInt + 1 := ti1 (by omega)
                exact ih18 (x9 + 1) (d.1 7 i (ix x9)) (x7 + 1) (x6 + 1) x5 (x4 + 1) (by omega) (by omega) (by omega) hs _ (lv_sub hl [0, 2, 3, 1, 6, 4, 7, 8, 9, 10] rfl)
            · have hs := hs.trans (cif_t c10)
              refine lv_iinc (v := x5 + 1) (lv' := [(5, .int (x5 + 1)), (8, .int (d.1 7 i (ix x9))), (7, .int (x7 + 1)), (4, .int (x4 + 1)), (10, .int (d.1 7 i (ix x9))), (9, .int x9), (6, .int x6), (0, .ref (ad 6 i)), (1, .int p1), (2, .int p2), (3, .int p3)]) S.1 S.2.1 dX2_watched_79 hl (k := 6) rfl (by rfl) (by decide) rfl (fun ls hl => ?_)
              refine lv_goto (tgt := 93) S.1 S.2.1 dX2_watched_82 (by decide) ?_
              refine lv_iinc (v := x9 + 1) (lv' := [(9, .int (x9 + 1)), (5, .int (x5 + 1)), (8, .int (d.1 7 i (ix x9))), (7, .int (x7 + 1)), (4, .int (x4 + 1)), (10, .int (d.1 7 i (ix x9))), (6, .int x6), (0, .ref (ad 6 i)), (1, .int p1), (2, .int p2), (3, .int p3)]) S.1 S.2.1 dX2_watched_93 hl (k := 5) rfl (by rfl) (by decide) rfl (fun ls hl => ?_)
              refine lv_goto (tgt := 18) S.1 S.2.1 dX2_watched_96 (by decide) ?_
              have e9 : ((x9 + 1)).toInt = x9.toInt + 1 := ti1 (by omega)
              exact ih18 (x9 + 1) (d.1 7 i (ix x9)) (x7 + 1) x6 (x5 + 1) (x4 + 1) (by omega) (by omega) (by omega) hs _ (lv_sub hl [0, 2, 3, 6, 1, 4, 7, 8, 9, 10] rfl)
        · have hs := hs.trans (cif_f c6)
          refine lv_iload S.1 S.2.1 dX2_watched_41 (lv_at hl 0 rfl) ?_
          refine lv_iconst (v := 2) S.1 S.2.1 dX2_watched_43 (by decide) ?_
          refine q_icmp_ne (tgt := 93) (xi := (d.1 7 i (ix x9)).toInt) (yi := 2) S rfl rfl dX2_watched_44 (by decide) (fun c12 => ?_) (fun c12 => ?_)
          · have hs := hs.trans (cif_f c12)
            refine lv_iinc (v := x9 + 1) (lv' := [(9, .int (x9 + 1)), (10, .int (d.1 7 i (ix x9))), (8, .int x8), (7, .int x7), (6, .int x6), (5, .int x5), (4, .int x4), (0, .ref (ad 6 i)), (1, .int p1), (2, .int p2), (3, .int p3)]) S.1 S.2.1 dX2_watched_93 hl (k := 1) rfl (by rfl) (by decide) rfl (fun ls hl => ?_)
            refine lv_goto (tgt := 18) S.1 S.2.1 dX2_watched_96 (by decide) ?_
            have e9 : ((x9 + 1)).toInt = x9.toInt + 1 := ti1 (by omega)
            exact ih18 (x9 + 1) x8 x7 x6 x5 x4 (by omega) (by omega) (by omega) hs _ (lv_sub hl [0, 2, 3, 4, 5, 6, 7, 8, 9, 10] rfl)
          · have hs := hs.trans (cif_t c12)
            refine lv_iinc (v := x4 + 1) (lv' := [(4, .int (x4 + 1)), (10, .int (d.1 7 i (ix x9))), (9, .int x9), (8, .int x8), (7, .int x7), (6, .int x6), (5, .int x5), (0, .ref (ad 6 i)), (1, .int p1), (2, .int p2), (3, .int p3)]) S.1 S.2.1 dX2_watched_47 hl (k := 6) rfl (by rfl) (by decide) rfl (fun ls hl => ?_)
            refine lv_iload S.1 S.2.1 dX2_watched_50 (lv_at hl 1 rfl) ?_
            refine lv_iload S.1 S.2.1 dX2_watched_52 (lv_at hl 3 rfl) ?_
            refine q_icmp_ne (tgt := 64) (xi := (d.1 7 i (ix x9)).toInt) (yi := x8.toInt) S rfl rfl dX2_watched_54 (by decide) (fun c13 => ?_) (fun c13 => ?_)
            · have hs := hs.trans (cif_f c13)
              refine lv_iconst (v := 0) S.1 S.2.1 dX2_watched_64 (by decide) ?_
              refine lv_istore (lv' := [(7, .int 0), (4, .int (x4 + 1)), (10, .int (d.1 7 i (ix x9))), (9, .int x9), (8, .int x8), (6, .int x6), (5, .int x5), (0, .ref (ad 6 i)), (1, .int p1), (2, .int p2), (3, .int p3)]) S.1 S.2.1 dX2_watched_65 hl (by decide) rfl (fun ls hl => ?_)
              refine lv_iload S.1 S.2.1 dX2_watched_67 (lv_at hl 2 rfl) ?_
              refine lv_istore (lv' := [(8, .int (d.1 7 i (ix x9))), (7, .int 0), (4, .int (x4 + 1)), (10, .int (d.1 7 i (ix x9))), (9, .int x9), (6, .int x6), (5, .int x5), (0, .ref (ad 6 i)), (1, .int p1), (2, .int p2), (3, .int p3)]) S.1 S.2.1 dX2_watched_69 hl (by decide) rfl (fun ls hl => ?_)
              refine lv_iload S.1 S.2.1 dX2_watched_71 (lv_at hl 1 rfl) ?_
              refine lv_iconst (v := 2) S.1 S.2.1 dX2_watched_73 (by decide) ?_
              refine lv_irem S.1 S.2.1 dX2_watched_74 (by decide) (q_to (by decide : (0 - 0 / 2 * 2 : Int32) = 0) ?_)
              refine lv_iconst (v := 1) S.1 S.2.1 dX2_watched_75 (by decide) ?_
              refine q_icmp_ne (tgt := 85) (xi := 0) (yi := 1) S rfl rfl dX2_watched_76 (by decide) (fun c14 => ?_) (fun c14 => absurd c14 (by omega))
              refine lv_iload S.1 S.2.1 dX2_watched_85 (lv_at hl 1 rfl) ?_
              refine q_if_le (tgt := 93) (xi := 0) S rfl dX2_watched_87 (by decide) (fun c15 => ?_) (fun c15 => absurd (by omega) c15)
              refine lv_iinc (v := x9 + 1) (lv' := [(9, .int (x9 + 1)), (8, .int (d.1 7 i (ix x9))), (7, .int 0), (4, .int (x4 + 1)), (10, .int (d.1 7 i (ix x9))), (6, .int x6), (5, .int x5), (0, .ref (ad 6 i)), (1, .int p1), (2, .int p2), (3, .int p3)]) S.1 S.2.1 dX2_watched_93 hl (k := 4) rfl (by rfl) (by decide) rfl (fun ls hl => ?_)
              refine lv_goto (tgt := 18) S.1 S.2.1 dX2_watched_96 (by decide) ?_
              have e9 : ((x9 + 1)).toInt = x9.toInt + 1 := ti1 (by omega)
              exact ih18 (x9 + 1) (d.1 7 i (ix x9)) 0 x6 x5 (x4 + 1) (by omega) (by omega) (by omega) hs _ (lv_sub hl [0, 1, 2, 5, 6, 3, 7, 8, 9, 10] rfl)
            · have hs := hs.trans (cif_t c13)
              refine lv_iload S.1 S.2.1 dX2_watched_57 (lv_at hl 4 rfl) ?_
              refine lv_iconst (v := 1) S.1 S.2.1 dX2_watched_59 (by decide) ?_
              refine lv_iadd S.1 S.2.1 dX2_watched_60 ?_
              refine lv_goto (tgt := 65) S.1 S.2.1 dX2_watched_61 (by decide) ?_
              refine lv_istore (lv' := [(7, .int (x7 + 1)), (4, .int (x4 + 1)), (10, .int (d.1 7 i (ix x9))), (9, .int x9), (8, .int x8), (6, .int x6), (5, .int x5), (0, .ref (ad 6 i)), (1, .int p1), (2, .int p2), (3, .int p3)]) S.1 S.2.1 dX2_watched_65 hl (by decide) rfl (fun ls hl => ?_)
              refine lv_iload S.1 S.2.1 dX2_watched_67 (lv_at hl 2 rfl) ?_
              refine lv_istore (lv' := [(8, .int (d.1 7 i (ix x9))), (7, .int (x7 + 1)), (4, .int (x4 + 1)), (10, .int (d.1 7 i (ix x9))), (9, .int x9), (6, .int x6), (5, .int x5), (0, .ref (ad 6 i)), (1, .int p1), (2, .int p2), (3, .int p3)]) S.1 S.2.1 dX2_watched_69 hl (by decide) rfl (fun ls hl => ?_)
              refine lv_iload S.1 S.2.1 dX2_watched_71 (lv_at hl 1 rfl) ?_
              refine lv_iconst (v := 2) S.1 S.2.1 dX2_watched_73 (by decide) ?_
              refine lv_irem S.1 S.2.1 dX2_watched_74 (by decide) ?_
              refine lv_iconst (v := 1) S.1 S.2.1 dX2_watched_75 (by decide) ?_
              refine q_icmp_ne (tgt := 85) (xi := ((x7 + 1) - (x7 + 1) / 2 * 2).toInt) (yi := 1) S rfl rfl dX2_watched_76 (by decide) (fun c16 => ?_) (fun c16 => ?_)
              · have hs := hs.trans (cif_f c16)
                refine lv_iload S.1 S.2.1 dX2_watched_85 (lv_at hl 1 rfl) ?_
                refine q_if_le (tgt := 93) (xi := (x7 + 1).toInt) S rfl dX2_watched_87 (by decide) (fun c17 => ?_) (fun c17 => ?_)
                · have hs := hs.trans (cif_t c17)
                  refine lv_iinc (v := x9 + 1) (lv' := [(9, .int (x9 + 1)), (8, .int (d.1 7 i (ix x9))), (7, .int (x7 + 1)), (4, .int (x4 + 1)), (10, .int (d.1 7 i (ix x9))), (6, .int x6), (5, .int x5), (0, .ref (ad 6 i)), (1, .int p1), (2, .int p2), (3, .int p3)]) S.1 S.2.1 dX2_watched_93 hl (k := 4) rfl (by rfl) (by decide) rfl (fun ls hl => ?_)
                  refine lv_goto (tgt := 18) S.1 S.2.1 dX2_watched_96 (by decide) ?_
                  have e9 : ((x9 + 1)).toInt = x9.toInt + 1 := ti1 (by omega)
                  exact ih18 (x9 + 1) (d.1 7 i (ix x9)) (x7 + 1) x6 x5 (x4 + 1) (by omega) (by omega) (by omega) hs _ (lv_sub hl [0, 1, 2, 5, 6, 3, 7, 8, 9, 10] rfl)
                · have hs := hs.trans (cif_f c17)
                  refine lv_iinc (v := x6 + 1) (lv' := [(6, .int (x6 + 1)), (8, .int (d.1 7 i (ix x9))), (7, .int (x7 + 1)), (4, .int (x4 + 1)), (10, .int (d.1 7 i (ix x9))), (9, .int x9), (5, .int x5), (0, .ref (ad 6 i)), (1, .int p1), (2, .int p2), (3, .int p3)]) S.1 S.2.1 dX2_watched_90 hl (k := 5) rfl (by rfl) (by decide) rfl (fun ls hl => ?_)
                  refine lv_iinc (v := x9 + 1) (lv' := [(9, .int (x9 + 1)), (6, .int (x6 + 1)), (8, .int (d.1 7 i (ix x9))), (7, .int (x7 + 1)), (4, .int (x4 + 1)), (10, .int (d.1 7 i (ix x9))), (5, .int x5), (0, .ref (ad 6 i)), (1, .int p1), (2, .int p2), (3, .int p3)]) S.1 S.2.1 dX2_watched_93 hl (k := 5) rfl (by rfl) (by decide) rfl (fun ls hl => ?_)
                  refine lv_goto (tgt := 18) S.1 S.2.1 dX2_watched_96 (by decide) ?_
                  have e9 : ((x9 + 1)).toInt = x9.toInt + 1 := ti1 (by omega)
                  exact ih18 (x9 + 1) (d.1 7 i (ix x9)) (x7 + 1) (x6 + 1) x5 (x4 + 1) (by omega) (by omega) (by omega) hs _ (lv_sub hl [0, 2, 3, 1, 6, 4, 7, 8, 9, 10] rfl)
              · have hs := hs.trans (cif_t c16)
                refine lv_iinc (v := x5 + 1) (lv' := [(5, .int (x5 + 1)), (8, .int (d.1 7 i (ix x9))), (7, .int (x7 + 1)), (4, .int (x4 + 1)), (10, .int (d.1 7 i (ix x9))), (9, .int x9), (6, .int x6), (0, .ref (ad 6 i)), (1, .int p1), (2, .int p2), (3, .int p3)]) S.1 S.2.1 dX2_watched_79 hl (k := 6) rfl (by rfl) (by decide) rfl (fun ls hl => ?_)
                refine lv_goto (tgt := 93) S.1 S.2.1 dX2_watched_82 (by decide) ?_
                refine lv_iinc (v := x9 + 1) (lv' := [(9, .int (x9 + 1)), (5, .int (x5 + 1)), (8, .int (d.1 7 i (ix x9))), (7, .int (x7 + 1)), (4, .int (x4 + 1)), (10, .int (d.1 7 i (ix x9))), (6, .int x6), (0, .ref (ad 6 i)), (1, .int p1), (2, .int p2), (3, .int p3)]) S.1 S.2.1 dX2_watched_93 hl (k := 5) rfl (by rfl) (by decide) rfl (fun ls hl => ?_)
                refine lv_goto (tgt := 18) S.1 S.2.1 dX2_watched_96 (by decide) ?_
                have e9 : ((x9 + 1)).toInt = x9.toInt + 1 := ti1 (by omega)
                exact ih18 (x9 + 1) (d.1 7 i (ix x9)) (x7 + 1) x6 (x5 + 1) (x4 + 1) (by omega) (by omega) (by omega) hs _ (lv_sub hl [0, 2, 3, 6, 1, 4, 7, 8, 9, 10] rfl)
  exact L18 64 p1 0 0 0 0 0 (by first | omega | (simp only [Int32.toInt_zero]; omega)) (by first | omega | (simp only [Int32.toInt_zero]; omega)) (by first | omega | (simp only [Int32.toInt_zero]; omega)) hs _ (lv_sub hl [0, 1, 2, 3, 4, 5, 6, 7, 8, 9] rfl)
set_option maxRecDepth 100000 in
set_option maxHeartbeats 8000000 in
theorem c_X0_takeFactor (l : Launch) (D : va_G) (G : Gc) (M T : Nat) (ad : Nat → Nat → Nat) (d : Dt) (i : Nat) (p1 : Int32) (p2 : Int32) (p3 : Int32) (hi : i < M) (h0 : 0 ≤ (d.1 8 i 6).toInt) (h1 : (d.1 8 i 6).toInt ≤ 11) : Met l yX0_takeFactor (wsU yX0_takeFactor cX0_takeFactor 5 none) ({ frames := 1, cells := 0, slots := 0, locals := 23 } : Room) (va_Pc [.ref (ad 8 i), .int p1, .int p2, .int p3] (XPre D (tysG G) (XF G M T ad) (XN M T) ad d)) (qW none D (XF G M T ad) (XN M T) ad (sp_X0_takeFactor d i p1 p2 p3)) 0 0 (adS (XN M T) ad) := by
  refine ent (by decide +kernel) (Nat.le_of_ble_eq_true rfl) ?_
  intro p e s m below meth c S hr hlk hpre ls hl
  have S : CallFix p m c cX0_takeFactor 5 s [.ref (ad 8 i), .int p1, .int p2, .int p3].toArray wsL_law RX0 := S
  obtain ⟨hK, hN, hX⟩ := hpre
  have hl : lv_has ls 5 [(0, .ref (ad 8 i)), (1, .int p1), (2, .int p2), (3, .int p3)] := hl
  have hs := sp_X0_takeFactor.eq_1 d i p1 p2 p3
  have hS : va_S (adS (XN M T) ad) s.heap s.heap [] := va_S.rf
  refine lv_aload_n S.1 S.2.1 dX0_takeFactor_0 rfl (lv_at hl 0 rfl) ?_
  refine gf_RX0_28 S hK hX hi (v := d.1 8 i 6) rfl dX0_takeFactor_1 ?_
  refine lv_istore (lv' := [(4, .int (d.1 8 i 6)), (0, .ref (ad 8 i)), (1, .int p1), (2, .int p2), (3, .int p3)]) S.1 S.2.1 dX0_takeFactor_4 hl (by decide) rfl (fun ls hl => ?_)
  have L6 : ∀ (n : Nat), ∀ (x4 : Int32) (e6 : Dt), x4.toInt < (n : Int) → 0 ≤ x4.toInt → x4.toInt ≤ 11 → sp_X0_takeFactor d i p1 p2 p3 = lp_X0_takeFactor_6 d i p1 p2 p3 n x4 e6 → ∀ (H : Heap) (locs : List Loc), PIC D (XF G M T ad) (XN M T) ad e6 H → va_S (adS (XN M T) ad) s.heap H locs → ∀ ls : Array Slot, lv_has ls 5 [(4, .int x4), (0, .ref (ad 8 i)), (1, .int p1), (2, .int p2), (3, .int p3)] → W p l e ({ frames := 1, cells := 0, slots := 0, locals := 23 } : Room) s m [.ref (ad 8 i), .int p1, .int p2, .int p3].toArray below meth c H locs 0 0 (MQ below (qW none D (XF G M T ad) (XN M T) ad (sp_X0_takeFactor d i p1 p2 p3)) [.ref (ad 8 i), .int p1, .int p2, .int p3].toArray s 0 0 (adS (XN M T) ad)) (F0 m 6 ls []) := by
    intro n
    induction n with
    | zero => intro x4 e6 hms v6_0 v6_1 hs H locs hX hS ls hl; omega
    | succ n ih6 =>
      intro x4 e6 hms v6_0 v6_1 hs H locs hX hS ls hl
      have hs := hs.trans (st_X0_takeFactor_6.eq_1 d i p1 p2 p3 (lp_X0_takeFactor_6 d i p1 p2 p3 n) x4 e6)
      refine lv_iload S.1 S.2.1 dX0_takeFactor_6 (lv_at hl 0 rfl) ?_
      refine q_if_le (tgt := 78) (xi := x4.toInt) S rfl dX0_takeFactor_8 (by decide) (fun c1 => ?_) (fun c1 => ?_)
      · have hs := hs.trans (cif_t c1)
        refine lv_aload_n S.1 S.2.1 dX0_takeFactor_78 rfl (lv_at hl 1 rfl) ?_
        refine gf_RX0_19 S hK hX hi dX0_takeFactor_79 ?_
        refine lv_iload S.1 S.2.1 dX0_takeFactor_82 (lv_at hl 0 rfl) ?_
        refine lv_iload_n S.1 S.2.1 dX0_takeFactor_84 rfl (lv_at hl 2 rfl) ?_
        refine as_X10 S hK hX hS hi (by omega) (by omega) dX0_takeFactor_85 (fun H locs hX hS => ?_)
        refine lv_aload_n S.1 S.2.1 dX0_takeFactor_86 rfl (lv_at hl 1 rfl) ?_
        refine gf_RX0_22 S hK hX hi dX0_takeFactor_87 ?_
        refine lv_iload S.1 S.2.1 dX0_takeFactor_90 (lv_at hl 0 rfl) ?_
        refine lv_iload_n S.1 S.2.1 dX0_takeFactor_92 rfl (lv_at hl 3 rfl) ?_
        refine as_X11 S hK hX hS hi (by omega) (by omega) dX0_takeFactor_93 (fun H locs hX hS => ?_)
        refine lv_aload_n S.1 S.2.1 dX0_takeFactor_94 rfl (lv_at hl 1 rfl) ?_
        refine gf_RX0_25 S hK hX hi dX0_takeFactor_95 ?_
        refine lv_iload S.1 S.2.1 dX0_takeFactor_98 (lv_at hl 0 rfl) ?_
        refine lv_iload_n S.1 S.2.1 dX0_takeFactor_100 rfl (lv_at hl 4 rfl) ?_
        refine as_X12 S hK hX hS hi (by omega) (by omega) dX0_takeFactor_101 (fun H locs hX hS => ?_)
        refine lv_aload_n S.1 S.2.1 dX0_takeFactor_102 rfl (lv_at hl 1 rfl) ?_
        refine lv_dup S.1 S.2.1 dX0_takeFactor_103 rfl ?_
        refine gf_RX0_28 S hK hX hi (v := e6.1 8 i 6) rfl dX0_takeFactor_104 ?_
        refine lv_iconst (v := 1) S.1 S.2.1 dX0_takeFactor_107 (by decide) ?_
        refine lv_iadd S.1 S.2.1 dX0_takeFactor_108 ?_
        refine pf_RX0_28 S hK hX hS hi dX0_takeFactor_109 (fun H locs hX hS => ?_)
        exact wV S hr hlk hs hX hS dX0_takeFactor_112
      · have hs := hs.trans (cif_f c1)
        have e8 := ts1 (x := x4) (by omega)
        refine lv_aload_n S.1 S.2.1 dX0_takeFactor_11 rfl (lv_at hl 1 rfl) ?_
        refine lv_iload S.1 S.2.1 dX0_takeFactor_12 (lv_at hl 0 rfl) ?_
        refine lv_iconst (v := 1) S.1 S.2.1 dX0_takeFactor_14 (by decide) ?_
        refine lv_isub S.1 S.2.1 dX0_takeFactor_15 ?_
        refine lv_iload_n S.1 S.2.1 dX0_takeFactor_16 rfl (lv_at hl 2 rfl) ?_
        refine lv_iload_n S.1 S.2.1 dX0_takeFactor_17 rfl (lv_at hl 3 rfl) ?_
        refine cPV (rest := []) S (c_X0_standsBehind l D G M T ad e6 i (x4 - 1) p1 p2 hi (by omega) (by omega)) gV_RX0_34 ds_X0_standsBehind ⟨rfl, rfl⟩ ⟨Nat.le_of_ble_eq_true rfl, Nat.le_of_ble_eq_true rfl⟩ ⟨blindX, recvX hK hX (k := 8) (i := i) hi rfl rfl, preX hK hN hX _⟩ rfl hl.1 rfl (Nat.le_of_ble_eq_true rfl) ⟨Nat.le_of_ble_eq_true rfl, Nat.le_of_ble_eq_true rfl⟩ dX0_takeFactor_18 ?_
        refine q_if_eq_b (tgt := 78) S dX0_takeFactor_21 (by decide) (fun c2 => ?_) (fun c2 => ?_)
        · have hs := hs.trans (cif_f c2)
          refine lv_aload_n S.1 S.2.1 dX0_takeFactor_78 rfl (lv_at hl 1 rfl) ?_
          refine gf_RX0_19 S hK hX hi dX0_takeFactor_79 ?_
          refine lv_iload S.1 S.2.1 dX0_takeFactor_82 (lv_at hl 0 rfl) ?_
          refine lv_iload_n S.1 S.2.1 dX0_takeFactor_84 rfl (lv_at hl 2 rfl) ?_
          refine as_X10 S hK hX hS hi (by omega) (by omega) dX0_takeFactor_85 (fun H locs hX hS => ?_)
          refine lv_aload_n S.1 S.2.1 dX0_takeFactor_86 rfl (lv_at hl 1 rfl) ?_
          refine gf_RX0_22 S hK hX hi dX0_takeFactor_87 ?_
          refine lv_iload S.1 S.2.1 dX0_takeFactor_90 (lv_at hl 0 rfl) ?_
          refine lv_iload_n S.1 S.2.1 dX0_takeFactor_92 rfl (lv_at hl 3 rfl) ?_
          refine as_X11 S hK hX hS hi (by omega) (by omega) dX0_takeFactor_93 (fun H locs hX hS => ?_)
          refine lv_aload_n S.1 S.2.1 dX0_takeFactor_94 rfl (lv_at hl 1 rfl) ?_
          refine gf_RX0_25 S hK hX hi dX0_takeFactor_95 ?_
          refine lv_iload S.1 S.2.1 dX0_takeFactor_98 (lv_at hl 0 rfl) ?_
          refine lv_iload_n S.1 S.2.1 dX0_takeFactor_100 rfl (lv_at hl 4 rfl) ?_
          refine as_X12 S hK hX hS hi (by omega) (by omega) dX0_takeFactor_101 (fun H locs hX hS => ?_)
          refine lv_aload_n S.1 S.2.1 dX0_takeFactor_102 rfl (lv_at hl 1 rfl) ?_
          refine lv_dup S.1 S.2.1 dX0_takeFactor_103 rfl ?_
          refine gf_RX0_28 S hK hX hi (v := e6.1 8 i 6) rfl dX0_takeFactor_104 ?_
          refine lv_iconst (v := 1) S.1 S.2.1 dX0_takeFactor_107 (by decide) ?_
          refine lv_iadd S.1 S.2.1 dX0_takeFactor_108 ?_
          refine pf_RX0_28 S hK hX hS hi dX0_takeFactor_109 (fun H locs hX hS => ?_)
          exact wV S hr hlk hs hX hS dX0_takeFactor_112
        · have hs := hs.trans (cif_t c2)
          refine lv_aload_n S.1 S.2.1 dX0_takeFactor_24 rfl (lv_at hl 1 rfl) ?_
          refine gf_RX0_19 S hK hX hi dX0_takeFactor_25 ?_
          refine lv_iload S.1 S.2.1 dX0_takeFactor_28 (lv_at hl 0 rfl) ?_
          refine lv_aload_n S.1 S.2.1 dX0_takeFactor_30 rfl (lv_at hl 1 rfl) ?_
          refine gf_RX0_19 S hK hX hi dX0_takeFactor_31 ?_
          refine lv_iload S.1 S.2.1 dX0_takeFactor_34 (lv_at hl 0 rfl) ?_
          refine lv_iconst (v := 1) S.1 S.2.1 dX0_takeFactor_36 (by decide) ?_
          refine lv_isub S.1 S.2.1 dX0_takeFactor_37 ?_
          refine al_X10 S hK hX hi (by omega) (by omega) (z := e6.1 10 i (ix (x4 - 1))) rfl dX0_takeFactor_38 ?_
          refine as_X10 S hK hX hS hi (by omega) (by omega) dX0_takeFactor_39 (fun H locs hX hS => ?_)
          refine lv_aload_n S.1 S.2.1 dX0_takeFactor_40 rfl (lv_at hl 1 rfl) ?_
          refine gf_RX0_22 S hK hX hi dX0_takeFactor_41 ?_
          refine lv_iload S.1 S.2.1 dX0_takeFactor_44 (lv_at hl 0 rfl) ?_
          refine lv_aload_n S.1 S.2.1 dX0_takeFactor_46 rfl (lv_at hl 1 rfl) ?_
          refine gf_RX0_22 S hK hX hi dX0_takeFactor_47 ?_
          refine lv_iload S.1 S.2.1 dX0_takeFactor_50 (lv_at hl 0 rfl) ?_
          refine lv_iconst (v := 1) S.1 S.2.1 dX0_takeFactor_52 (by decide) ?_
          refine lv_isub S.1 S.2.1 dX0_takeFactor_53 ?_
          refine al_X11 S hK hX hi (by omega) (by omega) (z := e6.1 11 i (ix (x4 - 1))) rfl dX0_takeFactor_54 ?_
          refine as_X11 S hK hX hS hi (by omega) (by omega) dX0_takeFactor_55 (fun H locs hX hS => ?_)
          refine lv_aload_n S.1 S.2.1 dX0_takeFactor_56 rfl (lv_at hl 1 rfl) ?_
          refine gf_RX0_25 S hK hX hi dX0_takeFactor_57 ?_
          refine lv_iload S.1 S.2.1 dX0_takeFactor_60 (lv_at hl 0 rfl) ?_
          refine lv_aload_n S.1 S.2.1 dX0_takeFactor_62 rfl (lv_at hl 1 rfl) ?_
          refine gf_RX0_25 S hK hX hi dX0_takeFactor_63 ?_
          refine lv_iload S.1 S.2.1 dX0_takeFactor_66 (lv_at hl 0 rfl) ?_
          refine lv_iconst (v := 1) S.1 S.2.1 dX0_takeFactor_68 (by decide) ?_
          refine lv_isub S.1 S.2.1 dX0_takeFactor_69 ?_
          refine al_X12 S hK hX hi (by omega) (by omega) (z := e6.1 12 i (ix (x4 - 1))) rfl dX0_takeFactor_70 ?_
          refine as_X12 S hK hX hS hi (by omega) (by omega) dX0_takeFactor_71 (fun H locs hX hS => ?_)
          refine lv_iinc (v := x4 + (-1)) (lv' := [(4, .int (x4 + (-1))), (0, .ref (ad 8 i)), (1, .int p1), (2, .int p2), (3, .int p3)]) S.1 S.2.1 dX0_takeFactor_72 hl (k := 0) rfl (by rfl) (by decide) rfl (fun ls hl => ?_)
          refine lv_goto (tgt := 6) S.1 S.2.1 dX0_takeFactor_75 (by decide) ?_
          have e9 : ((x4 + (-1))).toInt = x4.toInt - 1 := tim1 (by omega)
          exact ih6 (x4 + (-1)) (uv (uv (uv e6 10 i (ix x4) (e6.1 10 i (ix (x4 - 1)))) 11 i (ix x4) (e6.1 11 i (ix (x4 - 1)))) 12 i (ix x4) (e6.1 12 i (ix (x4 - 1)))) (by omega) (by omega) (by omega) hs _ _ hX hS _ (lv_sub hl [0, 1, 2, 3, 4] rfl)
  exact L6 16 (d.1 8 i 6) d (by omega) (by omega) (by omega) hs _ _ hX hS _ (lv_sub hl [0, 1, 2, 3, 4] rfl)
set_option maxRecDepth 100000 in
set_option maxHeartbeats 8000000 in
theorem c_X2_faultAs (l : Launch) (D : va_G) (G : Gc) (M T : Nat) (ad : Nat → Nat → Nat) (d : Dt) (i : Nat) (p1 : Int32) (hi : i < 4) : Met l yX2_faultAs (wsU yX2_faultAs cX2_faultAs 2 (some .int)) ({ frames := 0, cells := 0, slots := 0, locals := 0 } : Room) (va_Pc [.ref (ad 6 i), .int p1] (XPre D (tysG G) (XF G M T ad) (XN M T) ad d)) (qV (some (.int (sp_X2_faultAs d i p1)))) 0 0 (fun _ => False) := by
  refine ent (by decide +kernel) (Nat.le_of_ble_eq_true rfl) ?_
  intro p e s m below meth c S hr hlk hpre ls hl
  have S : CallFix p m c cX2_faultAs 2 s [.ref (ad 6 i), .int p1].toArray wsL_law RX2 := S
  obtain ⟨hK, hN, hX⟩ := hpre
  have hl : lv_has ls 2 [(0, .ref (ad 6 i)), (1, .int p1)] := hl
  have hs := sp_X2_faultAs.eq_1 d i p1
  refine lv_aload_n S.1 S.2.1 dX2_faultAs_0 rfl (lv_at hl 0 rfl) ?_
  refine gf_RX2_15 S hK hX hi (v := d.1 6 i 1) rfl dX2_faultAs_1 ?_
  refine q_if_ne (tgt := 9) (xi := (d.1 6 i 1).toInt) S rfl dX2_faultAs_4 (by decide) (fun c1 => ?_) (fun c1 => ?_)
  · have hs := hs.trans (cif_f c1)
    refine lv_aload_n S.1 S.2.1 dX2_faultAs_9 rfl (lv_at hl 0 rfl) ?_
    refine gf_RX2_19 S hK hX hi (v := d.1 6 i 2) rfl dX2_faultAs_10 ?_
    refine lv_iload_n S.1 S.2.1 dX2_faultAs_13 rfl (lv_at hl 1 rfl) ?_
    refine q_icmp_ne (tgt := 21) (xi := (d.1 6 i 2).toInt) (yi := p1.toInt) S rfl rfl dX2_faultAs_14 (by decide) (fun c2 => ?_) (fun c2 => ?_)
    · have hs := hs.trans (cif_f c2)
      refine lv_iconst (v := 2) S.1 S.2.1 dX2_faultAs_21 (by decide) ?_
      exact rI S hr hlk hs dX2_faultAs_22
    · have hs := hs.trans (cif_t c2)
      refine lv_iconst (v := 0) S.1 S.2.1 dX2_faultAs_17 (by decide) ?_
      refine lv_goto (tgt := 22) S.1 S.2.1 dX2_faultAs_18 (by decide) ?_
      exact rI S hr hlk hs dX2_faultAs_22
  · have hs := hs.trans (cif_t c1)
    refine lv_iconst (v := 1) S.1 S.2.1 dX2_faultAs_7 (by decide) ?_
    exact rI S hr hlk hs dX2_faultAs_8
set_option maxRecDepth 100000 in
set_option maxHeartbeats 8000000 in
theorem c_X2_fillIn (l : Launch) (D : va_G) (G : Gc) (M T : Nat) (ad : Nat → Nat → Nat) (d : Dt) (i : Nat) (p1 : Int32) (p2 : Int32) (hi : i < 4) (h0 : 0 ≤ p1.toInt) (h1 : p1.toInt < 60) : Met l yX2_fillIn (wsU yX2_fillIn cX2_fillIn 3 none) ({ frames := 0, cells := 0, slots := 0, locals := 0 } : Room) (va_Pc [.ref (ad 6 i), .int p1, .int p2] (XPre D (tysG G) (XF G M T ad) (XN M T) ad d)) (qW none D (XF G M T ad) (XN M T) ad (sp_X2_fillIn d i p1 p2)) 0 0 (adS (XN M T) ad) := by
  refine ent (by decide +kernel) (Nat.le_of_ble_eq_true rfl) ?_
  intro p e s m below meth c S hr hlk hpre ls hl
  have S : CallFix p m c cX2_fillIn 3 s [.ref (ad 6 i), .int p1, .int p2].toArray wsL_law RX2 := S
  obtain ⟨hK, hN, hX⟩ := hpre
  have hl : lv_has ls 3 [(0, .ref (ad 6 i)), (1, .int p1), (2, .int p2)] := hl
  have hs := sp_X2_fillIn.eq_1 d i p1 p2
  have hS : va_S (adS (XN M T) ad) s.heap s.heap [] := va_S.rf
  refine lv_aload_n S.1 S.2.1 dX2_fillIn_0 rfl (lv_at hl 0 rfl) ?_
  refine gf_RX2_19 S hK hX hi (v := d.1 6 i 2) rfl dX2_fillIn_1 ?_
  by_cases c1 : (d.1 6 i 2).toInt = 0
  · have hs := hs.trans (cif_t c1)
    refine lv_lookup (tgt := 32) (off := 28) S.1 S.2.1 dX2_fillIn_4 (by decide) (by rw [c1]; rfl) (by decide) ?_
    refine lv_aload_n S.1 S.2.1 dX2_fillIn_32 rfl (lv_at hl 0 rfl) ?_
    refine gf_RX2_9 S hK hX hi dX2_fillIn_33 ?_
    refine lv_iload_n S.1 S.2.1 dX2_fillIn_36 rfl (lv_at hl 1 rfl) ?_
    refine lv_iload_n S.1 S.2.1 dX2_fillIn_37 rfl (lv_at hl 2 rfl) ?_
    refine lv_i2b S.1 S.2.1 dX2_fillIn_38 rfl ?_
    refine as_X7 S hK hX hS hi (by omega) (by omega) dX2_fillIn_39 (fun H locs hX hS => ?_)
    refine lv_goto (tgt := 61) S.1 S.2.1 dX2_fillIn_40 (by decide) ?_
    exact wV S hr hlk hs hX hS dX2_fillIn_61
  · have hs := hs.trans (cif_f c1)
    by_cases c2 : (d.1 6 i 2).toInt = 1
    · have hs := hs.trans (cif_t c2)
      refine lv_lookup (tgt := 43) (off := 39) S.1 S.2.1 dX2_fillIn_4 (by decide) (by rw [c2]; rfl) (by decide) ?_
      refine lv_aload_n S.1 S.2.1 dX2_fillIn_43 rfl (lv_at hl 0 rfl) ?_
      refine gf_RX2_9 S hK hX hi dX2_fillIn_44 ?_
      refine lv_iload_n S.1 S.2.1 dX2_fillIn_47 rfl (lv_at hl 1 rfl) ?_
      refine lv_iload_n S.1 S.2.1 dX2_fillIn_48 rfl (lv_at hl 2 rfl) ?_
      refine lv_i2s S.1 S.2.1 dX2_fillIn_49 rfl ?_
      refine as_X7 S hK hX hS hi (by omega) (by omega) dX2_fillIn_50 (fun H locs hX hS => ?_)
      refine lv_goto (tgt := 61) S.1 S.2.1 dX2_fillIn_51 (by decide) ?_
      exact wV S hr hlk hs hX hS dX2_fillIn_61
    · have hs := hs.trans (cif_f c2)
      refine lv_lookup (tgt := 54) (off := 50) S.1 S.2.1 dX2_fillIn_4 (by decide) ((lv_osw (x := d.1 6 i 2) (k := 0) (fun h => absurd (congrArg Int32.toInt h) c1) rfl).trans ((lv_osw (x := d.1 6 i 2) (k := 1) (fun h => absurd (congrArg Int32.toInt h) c2) rfl).trans rfl)) (by decide) ?_
      refine lv_aload_n S.1 S.2.1 dX2_fillIn_54 rfl (lv_at hl 0 rfl) ?_
      refine gf_RX2_9 S hK hX hi dX2_fillIn_55 ?_
      refine lv_iload_n S.1 S.2.1 dX2_fillIn_58 rfl (lv_at hl 1 rfl) ?_
      refine lv_iload_n S.1 S.2.1 dX2_fillIn_59 rfl (lv_at hl 2 rfl) ?_
      refine as_X7 S hK hX hS hi (by omega) (by omega) dX2_fillIn_60 (fun H locs hX hS => ?_)
      exact wV S hr hlk hs hX hS dX2_fillIn_61
set_option maxRecDepth 100000 in
set_option maxHeartbeats 8000000 in
theorem c_X1_begin (l : Launch) (D : va_G) (G : Gc) (M T : Nat) (ad : Nat → Nat → Nat) (d : Dt) (p1 : Int32) (p2 : Int32) (p3 : Int32) : Met l yX1_begin (wsU yX1_begin cX1_begin 4 none) ({ frames := 0, cells := 0, slots := 0, locals := 0 } : Room) (va_Pc [.ref (ad 2 0), .int p1, .int p2, .int p3] (XPre D (tysG G) (XF G M T ad) (XN M T) ad d)) (qW none D (XF G M T ad) (XN M T) ad (sp_X1_begin d p1 p2 p3)) 0 0 (adS (XN M T) ad) := by
  refine ent (by decide +kernel) (Nat.le_of_ble_eq_true rfl) ?_
  intro p e s m below meth c S hr hlk hpre ls hl
  have S : CallFix p m c cX1_begin 4 s [.ref (ad 2 0), .int p1, .int p2, .int p3].toArray wsL_law RX1 := S
  obtain ⟨hK, hN, hX⟩ := hpre
  have hl : lv_has ls 4 [(0, .ref (ad 2 0)), (1, .int p1), (2, .int p2), (3, .int p3)] := hl
  have hs := sp_X1_begin.eq_1 d p1 p2 p3
  have hS : va_S (adS (XN M T) ad) s.heap s.heap [] := va_S.rf
  refine lv_aload_n S.1 S.2.1 dX1_begin_0 rfl (lv_at hl 0 rfl) ?_
  refine lv_iconst (v := 1) S.1 S.2.1 dX1_begin_1 (by decide) ?_
  refine pf_RX1_9 S hK hX hS rfl rfl dX1_begin_2 (fun H locs hX hS => ?_)
  refine lv_aload_n S.1 S.2.1 dX1_begin_5 rfl (lv_at hl 0 rfl) ?_
  refine lv_iload_n S.1 S.2.1 dX1_begin_6 rfl (lv_at hl 1 rfl) ?_
  refine pf_RX1_15 S hK hX hS dX1_begin_7 (fun H locs hX hS => ?_)
  refine lv_aload_n S.1 S.2.1 dX1_begin_10 rfl (lv_at hl 0 rfl) ?_
  refine lv_iload_n S.1 S.2.1 dX1_begin_11 rfl (lv_at hl 2 rfl) ?_
  refine pf_RX1_19 S hK hX hS dX1_begin_12 (fun H locs hX hS => ?_)
  refine lv_aload_n S.1 S.2.1 dX1_begin_15 rfl (lv_at hl 0 rfl) ?_
  refine lv_iload_n S.1 S.2.1 dX1_begin_16 rfl (lv_at hl 3 rfl) ?_
  refine pf_RX1_22 S hK hX hS dX1_begin_17 (fun H locs hX hS => ?_)
  refine lv_aload_n S.1 S.2.1 dX1_begin_20 rfl (lv_at hl 0 rfl) ?_
  refine lv_iconst (v := 0) S.1 S.2.1 dX1_begin_21 (by decide) ?_
  refine pf_RX1_29 S hK hX hS dX1_begin_22 (fun H locs hX hS => ?_)
  exact wV S hr hlk hs hX hS dX1_begin_25
set_option maxRecDepth 100000 in
set_option maxHeartbeats 8000000 in
theorem c_J7_fill_53178 (l : Launch) (D : va_G) (G : Gc) (M T : Nat) (ad : Nat → Nat → Nat) (d : Dt) (t0 : Nat) (p1 : Int32) (ht0 : t0 < 4) : Met l yJ7_fill_53178 (wsU yJ7_fill_53178 cJ7_fill_53178 4 none) ({ frames := 0, cells := 0, slots := 0, locals := 0 } : Room) (va_Pc [.ref (ad 7 t0), .int p1] (XPre D (tysG G) (XF G M T ad) (XN M T) ad d)) (qW none D (XF G M T ad) (XN M T) ad (sp_J7_fill_53178 d t0 p1)) 0 0 (adS (XN M T) ad) := by
  refine ent (by decide +kernel) (Nat.le_of_ble_eq_true rfl) ?_
  intro p e s m below meth c S hr hlk hpre ls hl
  have S : CallFix p m c cJ7_fill_53178 4 s [.ref (ad 7 t0), .int p1].toArray wsL_law RJ7 := S
  obtain ⟨hK, hN, hX⟩ := hpre
  have hl : lv_has ls 4 [(0, .ref (ad 7 t0)), (1, .int p1)] := hl
  have hs := sp_J7_fill_53178.eq_1 d t0 p1
  have hS : va_S (adS (XN M T) ad) s.heap s.heap [] := va_S.rf
  refine lv_iconst (v := 0) S.1 S.2.1 dJ7_fill_53178_0 (by decide) ?_
  refine lv_istore_n (lv' := [(2, .int 0), (0, .ref (ad 7 t0)), (1, .int p1)]) S.1 S.2.1 dJ7_fill_53178_1 rfl hl (by decide) rfl (fun ls hl => ?_)
  refine lv_aload_n S.1 S.2.1 dJ7_fill_53178_2 rfl (lv_at hl 1 rfl) ?_
  refine xlen7 S hK hX ht0 dJ7_fill_53178_3 ?_
  refine lv_istore_n (lv' := [(3, .int 60), (2, .int 0), (0, .ref (ad 7 t0)), (1, .int p1)]) S.1 S.2.1 dJ7_fill_53178_4 rfl hl (by decide) rfl (fun ls hl => ?_)
  have L5 : ∀ (n : Nat), ∀ (x2 : Int32) (e5 : Dt), 60 - x2.toInt < (n : Int) → 0 ≤ x2.toInt → x2.toInt ≤ 60 → sp_J7_fill_53178 d t0 p1 = lp_J7_fill_53178_5 d t0 p1 n x2 e5 → ∀ (H : Heap) (locs : List Loc), PIC D (XF G M T ad) (XN M T) ad e5 H → va_S (adS (XN M T) ad) s.heap H locs → ∀ ls : Array Slot, lv_has ls 4 [(3, .int 60), (2, .int x2), (0, .ref (ad 7 t0)), (1, .int p1)] → W p l e ({ frames := 0, cells := 0, slots := 0, locals := 0 } : Room) s m [.ref (ad 7 t0), .int p1].toArray below meth c H locs 0 0 (MQ below (qW none D (XF G M T ad) (XN M T) ad (sp_J7_fill_53178 d t0 p1)) [.ref (ad 7 t0), .int p1].toArray s 0 0 (adS (XN M T) ad)) (F0 m 5 ls []) := by
    intro n
    induction n with
    | zero => intro x2 e5 hms v5_0 v5_1 hs H locs hX hS ls hl; omega
    | succ n ih5 =>
      intro x2 e5 hms v5_0 v5_1 hs H locs hX hS ls hl
      have hs := hs.trans (st_J7_fill_53178_5.eq_1 d t0 p1 (lp_J7_fill_53178_5 d t0 p1 n) x2 e5)
      refine lv_iload_n S.1 S.2.1 dJ7_fill_53178_5 rfl (lv_at hl 1 rfl) ?_
      refine lv_iload_n S.1 S.2.1 dJ7_fill_53178_6 rfl (lv_at hl 0 rfl) ?_
      refine q_icmp_ge (tgt := 20) (xi := x2.toInt) (yi := 60) S rfl rfl dJ7_fill_53178_7 (by decide) (fun c1 => ?_) (fun c1 => ?_)
      · have hs := hs.trans (cif_t c1)
        exact wV S hr hlk hs hX hS dJ7_fill_53178_20
      · have hs := hs.trans (cif_f c1)
        refine lv_aload_n S.1 S.2.1 dJ7_fill_53178_10 rfl (lv_at hl 2 rfl) ?_
        refine lv_iload_n S.1 S.2.1 dJ7_fill_53178_11 rfl (lv_at hl 1 rfl) ?_
        refine lv_iload_n S.1 S.2.1 dJ7_fill_53178_12 rfl (lv_at hl 3 rfl) ?_
        refine as_X7 S hK hX hS ht0 (by omega) (by omega) dJ7_fill_53178_13 (fun H locs hX hS => ?_)
        refine lv_iinc (v := x2 + 1) (lv' := [(2, .int (x2 + 1)), (3, .int 60), (0, .ref (ad 7 t0)), (1, .int p1)]) S.1 S.2.1 dJ7_fill_53178_14 hl (k := 1) rfl (by rfl) (by decide) rfl (fun ls hl => ?_)
        refine lv_goto (tgt := 5) S.1 S.2.1 dJ7_fill_53178_17 (by decide) ?_
        have e9 : ((x2 + 1)).toInt = x2.toInt + 1 := ti1 (by omega)
        exact ih5 (x2 + 1) (uv e5 7 t0 (ix x2) p1) (by omega) (by omega) (by omega) hs _ _ hX hS _ (lv_sub hl [1, 0, 2, 3] rfl)
  exact L5 64 0 d (by first | omega | (simp only [Int32.toInt_zero]; omega)) (by first | omega | (simp only [Int32.toInt_zero]; omega)) (by first | omega | (simp only [Int32.toInt_zero]; omega)) hs _ _ hX hS _ (lv_sub hl [0, 1, 2, 3] rfl)
set_option maxRecDepth 100000 in
set_option maxHeartbeats 8000000 in
theorem c_X2_renew (l : Launch) (D : va_G) (G : Gc) (M T : Nat) (ad : Nat → Nat → Nat) (d : Dt) (i : Nat) (p1 : Int32) (p2 : Int32) (hi : i < 4) : Met l yX2_renew (wsU yX2_renew cX2_renew 3 none) ({ frames := 1, cells := 0, slots := 0, locals := 23 } : Room) (va_Pc [.ref (ad 6 i), .int p1, .int p2] (XPre D (tysG G) (XF G M T ad) (XN M T) ad d)) (qW none D (XF G M T ad) (XN M T) ad (sp_X2_renew d i p1 p2)) 0 0 (adS (XN M T) ad) := by
  refine ent (by decide +kernel) (Nat.le_of_ble_eq_true rfl) ?_
  intro p e s m below meth c S hr hlk hpre ls hl
  have S : CallFix p m c cX2_renew 3 s [.ref (ad 6 i), .int p1, .int p2].toArray wsL_law RX2 := S
  obtain ⟨hK, hN, hX⟩ := hpre
  have hl : lv_has ls 3 [(0, .ref (ad 6 i)), (1, .int p1), (2, .int p2)] := hl
  have hs := sp_X2_renew.eq_1 d i p1 p2
  have hS : va_S (adS (XN M T) ad) s.heap s.heap [] := va_S.rf
  refine lv_aload_n S.1 S.2.1 dX2_renew_0 rfl (lv_at hl 0 rfl) ?_
  refine gf_RX2_9 S hK hX hi dX2_renew_1 ?_
  refine lv_iconst (v := 0) S.1 S.2.1 dX2_renew_4 (by decide) ?_
  refine cWS (rest := []) S (c_J7_fill_53178 l D G M T ad d i 0 hi) gS_RX2_26 ds_J7_fill_53178.2 ⟨rfl, rfl⟩ ⟨Nat.le_of_ble_eq_true rfl, Nat.le_of_ble_eq_true rfl⟩ ⟨blindX, preX hK hN hX _⟩ rfl hl.1 rfl (Nat.le_of_ble_eq_true rfl) ⟨Nat.le_of_ble_eq_true rfl, Nat.le_of_ble_eq_true rfl⟩ dX2_renew_5 hS (fun _ h => h) (fun H locs hX hS hfr => ?_)
  refine lv_aload_n S.1 S.2.1 dX2_renew_8 rfl (lv_at hl 0 rfl) ?_
  refine lv_iconst (v := 1) S.1 S.2.1 dX2_renew_9 (by decide) ?_
  refine pf_RX2_15 S hK hX hS hi rfl rfl dX2_renew_10 (fun H locs hX hS => ?_)
  refine lv_aload_n S.1 S.2.1 dX2_renew_13 rfl (lv_at hl 0 rfl) ?_
  refine lv_iload_n S.1 S.2.1 dX2_renew_14 rfl (lv_at hl 1 rfl) ?_
  refine pf_RX2_19 S hK hX hS hi dX2_renew_15 (fun H locs hX hS => ?_)
  refine lv_aload_n S.1 S.2.1 dX2_renew_18 rfl (lv_at hl 0 rfl) ?_
  refine lv_iload_n S.1 S.2.1 dX2_renew_19 rfl (lv_at hl 2 rfl) ?_
  refine pf_RX2_23 S hK hX hS hi dX2_renew_20 (fun H locs hX hS => ?_)
  exact wV S hr hlk hs hX hS dX2_renew_23
end
