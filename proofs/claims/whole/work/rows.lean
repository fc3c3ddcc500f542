section
-- ===== PART A: goes FIRST, ahead of the names: the tables' words, and 'selects' of the private methods out of them =====
/-- a private method of a class that the tables say can be made, by its rows of tables_1 -/
def lw_okq (q : MethodName × Nat) : Prop := (q.1.cls ≠ "java/lang/invoke/MethodHandle" ∧ q.1.cls ≠ "java/lang/invoke/VarHandle") ∧ Cond.instantiable q.1.cls q.2 ∈ tables_1 ∧ Cond.privateMethod q.1 ∈ tables_1 ∧ Cond.instanceMethod q.1 ∈ tables_1
theorem lw_p0 : lw_okq (⟨"ParcelShelves", "changeSetting", "(II)I"⟩, 8) := ⟨⟨by decide +kernel, by decide +kernel⟩, List.mem_of_getElem? (i := 10) (by decide +kernel), List.mem_of_getElem? (i := 161) (by decide +kernel), List.mem_of_getElem? (i := 162) (by decide +kernel)⟩
theorem lw_p1 : lw_okq (⟨"ParcelShelves", "recorded", "(I)I"⟩, 8) := ⟨⟨by decide +kernel, by decide +kernel⟩, List.mem_of_getElem? (i := 10) (by decide +kernel), List.mem_of_getElem? (i := 172) (by decide +kernel), List.mem_of_getElem? (i := 173) (by decide +kernel)⟩
theorem lw_p2 : lw_okq (⟨"ParcelShelves", "letCome", "(II)I"⟩, 8) := ⟨⟨by decide +kernel, by decide +kernel⟩, List.mem_of_getElem? (i := 10) (by decide +kernel), List.mem_of_getElem? (i := 191) (by decide +kernel), List.mem_of_getElem? (i := 192) (by decide +kernel)⟩
theorem lw_p3 : lw_okq (⟨"ParcelShelves", "refuseForNoPlace", "(II)V"⟩, 8) := ⟨⟨by decide +kernel, by decide +kernel⟩, List.mem_of_getElem? (i := 10) (by decide +kernel), List.mem_of_getElem? (i := 220) (by decide +kernel), List.mem_of_getElem? (i := 221) (by decide +kernel)⟩
theorem lw_p4 : lw_okq (⟨"ParcelShelves", "refuseFor", "(II)V"⟩, 8) := ⟨⟨by decide +kernel, by decide +kernel⟩, List.mem_of_getElem? (i := 10) (by decide +kernel), List.mem_of_getElem? (i := 228) (by decide +kernel), List.mem_of_getElem? (i := 229) (by decide +kernel)⟩
theorem lw_p5 : lw_okq (⟨"ParcelShelves", "letFetch", "(I)I"⟩, 8) := ⟨⟨by decide +kernel, by decide +kernel⟩, List.mem_of_getElem? (i := 10) (by decide +kernel), List.mem_of_getElem? (i := 250) (by decide +kernel), List.mem_of_getElem? (i := 251) (by decide +kernel)⟩
theorem lw_p6 : lw_okq (⟨"ParcelShelves", "letRefuse", "(I)I"⟩, 8) := ⟨⟨by decide +kernel, by decide +kernel⟩, List.mem_of_getElem? (i := 10) (by decide +kernel), List.mem_of_getElem? (i := 284) (by decide +kernel), List.mem_of_getElem? (i := 285) (by decide +kernel)⟩
theorem lw_p7 : lw_okq (⟨"ParcelShelves", "refuseForNoParcel", "(I)V"⟩, 8) := ⟨⟨by decide +kernel, by decide +kernel⟩, List.mem_of_getElem? (i := 10) (by decide +kernel), List.mem_of_getElem? (i := 288) (by decide +kernel), List.mem_of_getElem? (i := 289) (by decide +kernel)⟩
theorem lw_p8 : lw_okq (⟨"ParcelShelves", "moveParcel", "(II)I"⟩, 8) := ⟨⟨by decide +kernel, by decide +kernel⟩, List.mem_of_getElem? (i := 10) (by decide +kernel), List.mem_of_getElem? (i := 298) (by decide +kernel), List.mem_of_getElem? (i := 299) (by decide +kernel)⟩
theorem lw_p9 : lw_okq (⟨"ParcelShelves", "letPass", "(I)I"⟩, 8) := ⟨⟨by decide +kernel, by decide +kernel⟩, List.mem_of_getElem? (i := 10) (by decide +kernel), List.mem_of_getElem? (i := 309) (by decide +kernel), List.mem_of_getElem? (i := 310) (by decide +kernel)⟩
theorem lw_p10 : lw_okq (⟨"ParcelShelves$Shop", "letCourierCome", "()V"⟩, 14) := ⟨⟨by decide +kernel, by decide +kernel⟩, List.mem_of_getElem? (i := 18) (by decide +kernel), List.mem_of_getElem? (i := 317) (by decide +kernel), List.mem_of_getElem? (i := 318) (by decide +kernel)⟩
theorem lw_p11 : lw_okq (⟨"ParcelShelves$Shop", "returnParcelsKeptTooLong", "()I"⟩, 14) := ⟨⟨by decide +kernel, by decide +kernel⟩, List.mem_of_getElem? (i := 18) (by decide +kernel), List.mem_of_getElem? (i := 325) (by decide +kernel), List.mem_of_getElem? (i := 326) (by decide +kernel)⟩
theorem lw_p12 : lw_okq (⟨"ParcelShelves$Shop", "isKeptTooLong", "(I)Z"⟩, 14) := ⟨⟨by decide +kernel, by decide +kernel⟩, List.mem_of_getElem? (i := 18) (by decide +kernel), List.mem_of_getElem? (i := 329) (by decide +kernel), List.mem_of_getElem? (i := 330) (by decide +kernel)⟩
theorem lw_p13 : lw_okq (⟨"ParcelShelves", "callCourier", "(I)I"⟩, 8) := ⟨⟨by decide +kernel, by decide +kernel⟩, List.mem_of_getElem? (i := 10) (by decide +kernel), List.mem_of_getElem? (i := 338) (by decide +kernel), List.mem_of_getElem? (i := 339) (by decide +kernel)⟩
theorem lw_p14 : lw_okq (⟨"ParcelShelves", "executeCommand", "(I)I"⟩, 8) := ⟨⟨by decide +kernel, by decide +kernel⟩, List.mem_of_getElem? (i := 10) (by decide +kernel), List.mem_of_getElem? (i := 490) (by decide +kernel), List.mem_of_getElem? (i := 491) (by decide +kernel)⟩
theorem lw_p15 : lw_okq (⟨"ParcelShelvesModel", "parcels", "()I"⟩, 14) := ⟨⟨by decide +kernel, by decide +kernel⟩, List.mem_of_getElem? (i := 523) (by decide +kernel), List.mem_of_getElem? (i := 580) (by decide +kernel), List.mem_of_getElem? (i := 581) (by decide +kernel)⟩
def lw_privs_1 : List (MethodName × Nat) := [(⟨"ParcelShelves", "changeSetting", "(II)I"⟩, 8), (⟨"ParcelShelves", "recorded", "(I)I"⟩, 8), (⟨"ParcelShelves", "letCome", "(II)I"⟩, 8), (⟨"ParcelShelves", "refuseForNoPlace", "(II)V"⟩, 8), (⟨"ParcelShelves", "refuseFor", "(II)V"⟩, 8), (⟨"ParcelShelves", "letFetch", "(I)I"⟩, 8), (⟨"ParcelShelves", "letRefuse", "(I)I"⟩, 8), (⟨"ParcelShelves", "refuseForNoParcel", "(I)V"⟩, 8), (⟨"ParcelShelves", "moveParcel", "(II)I"⟩, 8), (⟨"ParcelShelves", "letPass", "(I)I"⟩, 8), (⟨"ParcelShelves$Shop", "letCourierCome", "()V"⟩, 14), (⟨"ParcelShelves$Shop", "returnParcelsKeptTooLong", "()I"⟩, 14), (⟨"ParcelShelves$Shop", "isKeptTooLong", "(I)Z"⟩, 14), (⟨"ParcelShelves", "callCourier", "(I)I"⟩, 8), (⟨"ParcelShelves", "executeCommand", "(I)I"⟩, 8), (⟨"ParcelShelvesModel", "parcels", "()I"⟩, 14)]
theorem lw_r1 : ∀ q ∈ lw_privs_1, lw_okq q := List.forall_mem_cons.mpr ⟨lw_p0, List.forall_mem_cons.mpr ⟨lw_p1, List.forall_mem_cons.mpr ⟨lw_p2, List.forall_mem_cons.mpr ⟨lw_p3, List.forall_mem_cons.mpr ⟨lw_p4, List.forall_mem_cons.mpr ⟨lw_p5, List.forall_mem_cons.mpr ⟨lw_p6, List.forall_mem_cons.mpr ⟨lw_p7, List.forall_mem_cons.mpr ⟨lw_p8, List.forall_mem_cons.mpr ⟨lw_p9, List.forall_mem_cons.mpr ⟨lw_p10, List.forall_mem_cons.mpr ⟨lw_p11, List.forall_mem_cons.mpr ⟨lw_p12, List.forall_mem_cons.mpr ⟨lw_p13, List.forall_mem_cons.mpr ⟨lw_p14, List.forall_mem_cons.mpr ⟨lw_p15, fun _ h => absurd h List.not_mem_nil⟩⟩⟩⟩⟩⟩⟩⟩⟩⟩⟩⟩⟩⟩⟩⟩
theorem lw_p16 : lw_okq (⟨"ParcelShelvesModel", "isTaken", "(I)Z"⟩, 14) := ⟨⟨by decide +kernel, by decide +kernel⟩, List.mem_of_getElem? (i := 523) (by decide +kernel), List.mem_of_getElem? (i := 584) (by decide +kernel), List.mem_of_getElem? (i := 585) (by decide +kernel)⟩
theorem lw_p17 : lw_okq (⟨"ParcelShelvesModel", "at", "(II)I"⟩, 14) := ⟨⟨by decide +kernel, by decide +kernel⟩, List.mem_of_getElem? (i := 523) (by decide +kernel), List.mem_of_getElem? (i := 588) (by decide +kernel), List.mem_of_getElem? (i := 589) (by decide +kernel)⟩
theorem lw_p18 : lw_okq (⟨"ParcelShelvesModel", "record", "()V"⟩, 14) := ⟨⟨by decide +kernel, by decide +kernel⟩, List.mem_of_getElem? (i := 523) (by decide +kernel), List.mem_of_getElem? (i := 596) (by decide +kernel), List.mem_of_getElem? (i := 597) (by decide +kernel)⟩
theorem lw_p19 : lw_okq (⟨"ParcelShelvesModel", "whyNotCome", "(II)I"⟩, 14) := ⟨⟨by decide +kernel, by decide +kernel⟩, List.mem_of_getElem? (i := 523) (by decide +kernel), List.mem_of_getElem? (i := 618) (by decide +kernel), List.mem_of_getElem? (i := 619) (by decide +kernel)⟩
theorem lw_p20 : lw_okq (⟨"ParcelShelvesModel", "firstPlace", "(II)I"⟩, 14) := ⟨⟨by decide +kernel, by decide +kernel⟩, List.mem_of_getElem? (i := 523) (by decide +kernel), List.mem_of_getElem? (i := 625) (by decide +kernel), List.mem_of_getElem? (i := 626) (by decide +kernel)⟩
theorem lw_p21 : lw_okq (⟨"ParcelShelvesModel", "rests", "(I)Z"⟩, 14) := ⟨⟨by decide +kernel, by decide +kernel⟩, List.mem_of_getElem? (i := 523) (by decide +kernel), List.mem_of_getElem? (i := 629) (by decide +kernel), List.mem_of_getElem? (i := 630) (by decide +kernel)⟩
theorem lw_p22 : lw_okq (⟨"ParcelShelvesModel", "restsOf", "(I)I"⟩, 14) := ⟨⟨by decide +kernel, by decide +kernel⟩, List.mem_of_getElem? (i := 523) (by decide +kernel), List.mem_of_getElem? (i := 636) (by decide +kernel), List.mem_of_getElem? (i := 637) (by decide +kernel)⟩
theorem lw_p23 : lw_okq (⟨"ParcelShelvesModel", "refusePlace", "(II)I"⟩, 14) := ⟨⟨by decide +kernel, by decide +kernel⟩, List.mem_of_getElem? (i := 523) (by decide +kernel), List.mem_of_getElem? (i := 640) (by decide +kernel), List.mem_of_getElem? (i := 641) (by decide +kernel)⟩
theorem lw_p24 : lw_okq (⟨"ParcelShelvesModel", "refuseBy", "(III)I"⟩, 14) := ⟨⟨by decide +kernel, by decide +kernel⟩, List.mem_of_getElem? (i := 523) (by decide +kernel), List.mem_of_getElem? (i := 644) (by decide +kernel), List.mem_of_getElem? (i := 645) (by decide +kernel)⟩
theorem lw_p25 : lw_okq (⟨"ParcelShelvesModel", "comes", "(II)I"⟩, 14) := ⟨⟨by decide +kernel, by decide +kernel⟩, List.mem_of_getElem? (i := 523) (by decide +kernel), List.mem_of_getElem? (i := 648) (by decide +kernel), List.mem_of_getElem? (i := 649) (by decide +kernel)⟩
theorem lw_p26 : lw_okq (⟨"ParcelShelvesModel", "lay", "(IIII)V"⟩, 14) := ⟨⟨by decide +kernel, by decide +kernel⟩, List.mem_of_getElem? (i := 523) (by decide +kernel), List.mem_of_getElem? (i := 652) (by decide +kernel), List.mem_of_getElem? (i := 653) (by decide +kernel)⟩
theorem lw_p27 : lw_okq (⟨"ParcelShelvesModel", "codeOn", "(I)I"⟩, 14) := ⟨⟨by decide +kernel, by decide +kernel⟩, List.mem_of_getElem? (i := 523) (by decide +kernel), List.mem_of_getElem? (i := 656) (by decide +kernel), List.mem_of_getElem? (i := 657) (by decide +kernel)⟩
theorem lw_p28 : lw_okq (⟨"ParcelShelvesModel", "whyNotFetch", "(I)I"⟩, 14) := ⟨⟨by decide +kernel, by decide +kernel⟩, List.mem_of_getElem? (i := 523) (by decide +kernel), List.mem_of_getElem? (i := 667) (by decide +kernel), List.mem_of_getElem? (i := 668) (by decide +kernel)⟩
theorem lw_p29 : lw_okq (⟨"ParcelShelvesModel", "isLocked", "()Z"⟩, 14) := ⟨⟨by decide +kernel, by decide +kernel⟩, List.mem_of_getElem? (i := 523) (by decide +kernel), List.mem_of_getElem? (i := 671) (by decide +kernel), List.mem_of_getElem? (i := 672) (by decide +kernel)⟩
theorem lw_p30 : lw_okq (⟨"ParcelShelvesModel", "fetches", "(I)I"⟩, 14) := ⟨⟨by decide +kernel, by decide +kernel⟩, List.mem_of_getElem? (i := 523) (by decide +kernel), List.mem_of_getElem? (i := 675) (by decide +kernel), List.mem_of_getElem? (i := 676) (by decide +kernel)⟩
theorem lw_p31 : lw_okq (⟨"ParcelShelvesModel", "placeBy", "(I)I"⟩, 14) := ⟨⟨by decide +kernel, by decide +kernel⟩, List.mem_of_getElem? (i := 523) (by decide +kernel), List.mem_of_getElem? (i := 679) (by decide +kernel), List.mem_of_getElem? (i := 680) (by decide +kernel)⟩
def lw_privs_2 : List (MethodName × Nat) := [(⟨"ParcelShelvesModel", "isTaken", "(I)Z"⟩, 14), (⟨"ParcelShelvesModel", "at", "(II)I"⟩, 14), (⟨"ParcelShelvesModel", "record", "()V"⟩, 14), (⟨"ParcelShelvesModel", "whyNotCome", "(II)I"⟩, 14), (⟨"ParcelShelvesModel", "firstPlace", "(II)I"⟩, 14), (⟨"ParcelShelvesModel", "rests", "(I)Z"⟩, 14), (⟨"ParcelShelvesModel", "restsOf", "(I)I"⟩, 14), (⟨"ParcelShelvesModel", "refusePlace", "(II)I"⟩, 14), (⟨"ParcelShelvesModel", "refuseBy", "(III)I"⟩, 14), (⟨"ParcelShelvesModel", "comes", "(II)I"⟩, 14), (⟨"ParcelShelvesModel", "lay", "(IIII)V"⟩, 14), (⟨"ParcelShelvesModel", "codeOn", "(I)I"⟩, 14), (⟨"ParcelShelvesModel", "whyNotFetch", "(I)I"⟩, 14), (⟨"ParcelShelvesModel", "isLocked", "()Z"⟩, 14), (⟨"ParcelShelvesModel", "fetches", "(I)I"⟩, 14), (⟨"ParcelShelvesModel", "placeBy", "(I)I"⟩, 14)]
theorem lw_r2 : ∀ q ∈ lw_privs_2, lw_okq q := List.forall_mem_cons.mpr ⟨lw_p16, List.forall_mem_cons.mpr ⟨lw_p17, List.forall_mem_cons.mpr ⟨lw_p18, List.forall_mem_cons.mpr ⟨lw_p19, List.forall_mem_cons.mpr ⟨lw_p20, List.forall_mem_cons.mpr ⟨lw_p21, List.forall_mem_cons.mpr ⟨lw_p22, List.forall_mem_cons.mpr ⟨lw_p23, List.forall_mem_cons.mpr ⟨lw_p24, List.forall_mem_cons.mpr ⟨lw_p25, List.forall_mem_cons.mpr ⟨lw_p26, List.forall_mem_cons.mpr ⟨lw_p27, List.forall_mem_cons.mpr ⟨lw_p28, List.forall_mem_cons.mpr ⟨lw_p29, List.forall_mem_cons.mpr ⟨lw_p30, List.forall_mem_cons.mpr ⟨lw_p31, fun _ h => absurd h List.not_mem_nil⟩⟩⟩⟩⟩⟩⟩⟩⟩⟩⟩⟩⟩⟩⟩⟩
theorem lw_p32 : lw_okq (⟨"ParcelShelvesModel", "feeOn", "(II)I"⟩, 14) := ⟨⟨by decide +kernel, by decide +kernel⟩, List.mem_of_getElem? (i := 523) (by decide +kernel), List.mem_of_getElem? (i := 686) (by decide +kernel), List.mem_of_getElem? (i := 687) (by decide +kernel)⟩
theorem lw_p33 : lw_okq (⟨"ParcelShelvesModel", "count", "(III)V"⟩, 14) := ⟨⟨by decide +kernel, by decide +kernel⟩, List.mem_of_getElem? (i := 523) (by decide +kernel), List.mem_of_getElem? (i := 690) (by decide +kernel), List.mem_of_getElem? (i := 691) (by decide +kernel)⟩
theorem lw_p34 : lw_okq (⟨"ParcelShelvesModel", "leave", "(I)V"⟩, 14) := ⟨⟨by decide +kernel, by decide +kernel⟩, List.mem_of_getElem? (i := 523) (by decide +kernel), List.mem_of_getElem? (i := 694) (by decide +kernel), List.mem_of_getElem? (i := 695) (by decide +kernel)⟩
theorem lw_p35 : lw_okq (⟨"ParcelShelvesModel", "whyNotRefuse", "(I)I"⟩, 14) := ⟨⟨by decide +kernel, by decide +kernel⟩, List.mem_of_getElem? (i := 523) (by decide +kernel), List.mem_of_getElem? (i := 702) (by decide +kernel), List.mem_of_getElem? (i := 703) (by decide +kernel)⟩
theorem lw_p36 : lw_okq (⟨"ParcelShelvesModel", "refuseCode", "(I)I"⟩, 14) := ⟨⟨by decide +kernel, by decide +kernel⟩, List.mem_of_getElem? (i := 523) (by decide +kernel), List.mem_of_getElem? (i := 706) (by decide +kernel), List.mem_of_getElem? (i := 707) (by decide +kernel)⟩
theorem lw_p37 : lw_okq (⟨"ParcelShelvesModel", "ofSender", "(II)I"⟩, 14) := ⟨⟨by decide +kernel, by decide +kernel⟩, List.mem_of_getElem? (i := 523) (by decide +kernel), List.mem_of_getElem? (i := 710) (by decide +kernel), List.mem_of_getElem? (i := 711) (by decide +kernel)⟩
theorem lw_p38 : lw_okq (⟨"ParcelShelvesModel", "goesBack", "(I)I"⟩, 14) := ⟨⟨by decide +kernel, by decide +kernel⟩, List.mem_of_getElem? (i := 523) (by decide +kernel), List.mem_of_getElem? (i := 714) (by decide +kernel), List.mem_of_getElem? (i := 715) (by decide +kernel)⟩
theorem lw_p39 : lw_okq (⟨"ParcelShelvesModel", "whyNotMove", "(II)I"⟩, 14) := ⟨⟨by decide +kernel, by decide +kernel⟩, List.mem_of_getElem? (i := 523) (by decide +kernel), List.mem_of_getElem? (i := 722) (by decide +kernel), List.mem_of_getElem? (i := 723) (by decide +kernel)⟩
theorem lw_p40 : lw_okq (⟨"ParcelShelvesModel", "moves", "(II)I"⟩, 14) := ⟨⟨by decide +kernel, by decide +kernel⟩, List.mem_of_getElem? (i := 523) (by decide +kernel), List.mem_of_getElem? (i := 726) (by decide +kernel), List.mem_of_getElem? (i := 727) (by decide +kernel)⟩
theorem lw_p41 : lw_okq (⟨"ParcelShelvesModel", "whyNotPass", "(I)I"⟩, 14) := ⟨⟨by decide +kernel, by decide +kernel⟩, List.mem_of_getElem? (i := 523) (by decide +kernel), List.mem_of_getElem? (i := 734) (by decide +kernel), List.mem_of_getElem? (i := 735) (by decide +kernel)⟩
theorem lw_p42 : lw_okq (⟨"ParcelShelvesModel", "passes", "(I)I"⟩, 14) := ⟨⟨by decide +kernel, by decide +kernel⟩, List.mem_of_getElem? (i := 523) (by decide +kernel), List.mem_of_getElem? (i := 738) (by decide +kernel), List.mem_of_getElem? (i := 739) (by decide +kernel)⟩
theorem lw_p43 : lw_okq (⟨"ParcelShelvesModel", "begins", "()I"⟩, 14) := ⟨⟨by decide +kernel, by decide +kernel⟩, List.mem_of_getElem? (i := 523) (by decide +kernel), List.mem_of_getElem? (i := 742) (by decide +kernel), List.mem_of_getElem? (i := 743) (by decide +kernel)⟩
theorem lw_p44 : lw_okq (⟨"ParcelShelvesModel", "takes", "(II)I"⟩, 14) := ⟨⟨by decide +kernel, by decide +kernel⟩, List.mem_of_getElem? (i := 523) (by decide +kernel), List.mem_of_getElem? (i := 746) (by decide +kernel), List.mem_of_getElem? (i := 747) (by decide +kernel)⟩
theorem lw_p45 : lw_okq (⟨"ParcelShelvesModel", "inBins", "()I"⟩, 14) := ⟨⟨by decide +kernel, by decide +kernel⟩, List.mem_of_getElem? (i := 523) (by decide +kernel), List.mem_of_getElem? (i := 781) (by decide +kernel), List.mem_of_getElem? (i := 782) (by decide +kernel)⟩
theorem lw_p46 : lw_okq (⟨"ParcelShelvesModel", "fees", "()I"⟩, 14) := ⟨⟨by decide +kernel, by decide +kernel⟩, List.mem_of_getElem? (i := 523) (by decide +kernel), List.mem_of_getElem? (i := 785) (by decide +kernel), List.mem_of_getElem? (i := 786) (by decide +kernel)⟩
theorem lw_p47 : lw_okq (⟨"ParcelShelvesModel", "putAside", "()V"⟩, 14) := ⟨⟨by decide +kernel, by decide +kernel⟩, List.mem_of_getElem? (i := 523) (by decide +kernel), List.mem_of_getElem? (i := 817) (by decide +kernel), List.mem_of_getElem? (i := 818) (by decide +kernel)⟩
def lw_privs_3 : List (MethodName × Nat) := [(⟨"ParcelShelvesModel", "feeOn", "(II)I"⟩, 14), (⟨"ParcelShelvesModel", "count", "(III)V"⟩, 14), (⟨"ParcelShelvesModel", "leave", "(I)V"⟩, 14), (⟨"ParcelShelvesModel", "whyNotRefuse", "(I)I"⟩, 14), (⟨"ParcelShelvesModel", "refuseCode", "(I)I"⟩, 14), (⟨"ParcelShelvesModel", "ofSender", "(II)I"⟩, 14), (⟨"ParcelShelvesModel", "goesBack", "(I)I"⟩, 14), (⟨"ParcelShelvesModel", "whyNotMove", "(II)I"⟩, 14), (⟨"ParcelShelvesModel", "moves", "(II)I"⟩, 14), (⟨"ParcelShelvesModel", "whyNotPass", "(I)I"⟩, 14), (⟨"ParcelShelvesModel", "passes", "(I)I"⟩, 14), (⟨"ParcelShelvesModel", "begins", "()I"⟩, 14), (⟨"ParcelShelvesModel", "takes", "(II)I"⟩, 14), (⟨"ParcelShelvesModel", "inBins", "()I"⟩, 14), (⟨"ParcelShelvesModel", "fees", "()I"⟩, 14), (⟨"ParcelShelvesModel", "putAside", "()V"⟩, 14)]
theorem lw_r3 : ∀ q ∈ lw_privs_3, lw_okq q := List.forall_mem_cons.mpr ⟨lw_p32, List.forall_mem_cons.mpr ⟨lw_p33, List.forall_mem_cons.mpr ⟨lw_p34, List.forall_mem_cons.mpr ⟨lw_p35, List.forall_mem_cons.mpr ⟨lw_p36, List.forall_mem_cons.mpr ⟨lw_p37, List.forall_mem_cons.mpr ⟨lw_p38, List.forall_mem_cons.mpr ⟨lw_p39, List.forall_mem_cons.mpr ⟨lw_p40, List.forall_mem_cons.mpr ⟨lw_p41, List.forall_mem_cons.mpr ⟨lw_p42, List.forall_mem_cons.mpr ⟨lw_p43, List.forall_mem_cons.mpr ⟨lw_p44, List.forall_mem_cons.mpr ⟨lw_p45, List.forall_mem_cons.mpr ⟨lw_p46, List.forall_mem_cons.mpr ⟨lw_p47, fun _ h => absurd h List.not_mem_nil⟩⟩⟩⟩⟩⟩⟩⟩⟩⟩⟩⟩⟩⟩⟩⟩
theorem lw_p48 : lw_okq (⟨"ParcelShelvesModel", "takeBack", "()V"⟩, 14) := ⟨⟨by decide +kernel, by decide +kernel⟩, List.mem_of_getElem? (i := 523) (by decide +kernel), List.mem_of_getElem? (i := 821) (by decide +kernel), List.mem_of_getElem? (i := 822) (by decide +kernel)⟩
theorem lw_p49 : lw_okq (⟨"ParcelShelvesModel", "readCommand", "()V"⟩, 14) := ⟨⟨by decide +kernel, by decide +kernel⟩, List.mem_of_getElem? (i := 523) (by decide +kernel), List.mem_of_getElem? (i := 841) (by decide +kernel), List.mem_of_getElem? (i := 842) (by decide +kernel)⟩
theorem lw_p50 : lw_okq (⟨"ParcelShelvesModel", "letter", "()I"⟩, 14) := ⟨⟨by decide +kernel, by decide +kernel⟩, List.mem_of_getElem? (i := 523) (by decide +kernel), List.mem_of_getElem? (i := 845) (by decide +kernel), List.mem_of_getElem? (i := 846) (by decide +kernel)⟩
theorem lw_p51 : lw_okq (⟨"ParcelShelvesModel", "wants", "(Z)V"⟩, 14) := ⟨⟨by decide +kernel, by decide +kernel⟩, List.mem_of_getElem? (i := 523) (by decide +kernel), List.mem_of_getElem? (i := 849) (by decide +kernel), List.mem_of_getElem? (i := 850) (by decide +kernel)⟩
theorem lw_p52 : lw_okq (⟨"ParcelShelvesModel", "figure", "(II)I"⟩, 14) := ⟨⟨by decide +kernel, by decide +kernel⟩, List.mem_of_getElem? (i := 523) (by decide +kernel), List.mem_of_getElem? (i := 853) (by decide +kernel), List.mem_of_getElem? (i := 854) (by decide +kernel)⟩
theorem lw_p53 : lw_okq (⟨"ParcelShelvesModel", "size", "()I"⟩, 14) := ⟨⟨by decide +kernel, by decide +kernel⟩, List.mem_of_getElem? (i := 523) (by decide +kernel), List.mem_of_getElem? (i := 857) (by decide +kernel), List.mem_of_getElem? (i := 858) (by decide +kernel)⟩
theorem lw_p54 : lw_okq (⟨"ParcelShelvesModel", "days", "()I"⟩, 14) := ⟨⟨by decide +kernel, by decide +kernel⟩, List.mem_of_getElem? (i := 523) (by decide +kernel), List.mem_of_getElem? (i := 861) (by decide +kernel), List.mem_of_getElem? (i := 862) (by decide +kernel)⟩
theorem lw_p55 : lw_okq (⟨"ParcelShelvesModel", "executeOne", "(I)I"⟩, 14) := ⟨⟨by decide +kernel, by decide +kernel⟩, List.mem_of_getElem? (i := 523) (by decide +kernel), List.mem_of_getElem? (i := 870) (by decide +kernel), List.mem_of_getElem? (i := 871) (by decide +kernel)⟩
def lw_privs_4 : List (MethodName × Nat) := [(⟨"ParcelShelvesModel", "takeBack", "()V"⟩, 14), (⟨"ParcelShelvesModel", "readCommand", "()V"⟩, 14), (⟨"ParcelShelvesModel", "letter", "()I"⟩, 14), (⟨"ParcelShelvesModel", "wants", "(Z)V"⟩, 14), (⟨"ParcelShelvesModel", "figure", "(II)I"⟩, 14), (⟨"ParcelShelvesModel", "size", "()I"⟩, 14), (⟨"ParcelShelvesModel", "days", "()I"⟩, 14), (⟨"ParcelShelvesModel", "executeOne", "(I)I"⟩, 14)]
theorem lw_r4 : ∀ q ∈ lw_privs_4, lw_okq q := List.forall_mem_cons.mpr ⟨lw_p48, List.forall_mem_cons.mpr ⟨lw_p49, List.forall_mem_cons.mpr ⟨lw_p50, List.forall_mem_cons.mpr ⟨lw_p51, List.forall_mem_cons.mpr ⟨lw_p52, List.forall_mem_cons.mpr ⟨lw_p53, List.forall_mem_cons.mpr ⟨lw_p54, List.forall_mem_cons.mpr ⟨lw_p55, fun _ h => absurd h List.not_mem_nil⟩⟩⟩⟩⟩⟩⟩⟩
def lw_privs : List (MethodName × Nat) := lw_privs_1 ++ (lw_privs_2 ++ (lw_privs_3 ++ (lw_privs_4)))
def lw_tbl : List Cond := k2_sels lw_privs ++ tables_1
theorem lw_privs_ok : ∀ q ∈ lw_privs, lw_okq q := by
  show ∀ q ∈ lw_privs_1 ++ (lw_privs_2 ++ (lw_privs_3 ++ (lw_privs_4))), lw_okq q
  exact List.forall_mem_append.mpr ⟨lw_r1, List.forall_mem_append.mpr ⟨lw_r2, List.forall_mem_append.mpr ⟨lw_r3, lw_r4⟩⟩⟩
-- ===== end of PART A; then your names; then what follows =====
end
section
/-! ===== BEGIN words of one list among another's, by their places ===== -/
theorem goodIn_r {big : List Cond} (ws : List Cond) (ps : List Nat) (hp : ws = ps.filterMap (fun i => big[i]?)) (h : ws.all goodWord = true) : GoodIn big ws := by
  intro w hw
  have h1 := List.all_eq_true.mp h w hw
  rw [hp] at hw
  obtain ⟨i, -, hi⟩ := List.mem_filterMap.mp hw
  have hm : w ∈ big := by first | exact List.mem_of_getElem? hi | exact List.getElem?_mem hi
  exact ⟨hm, good_of_word h1⟩
theorem goodIn_app {big a b : List Cond} (ha : GoodIn big a) (hb : GoodIn big b) : GoodIn big (a ++ b) := fun w h => (List.mem_append.mp h).elim (ha w) (hb w)
theorem goodIn_ca {big a b : List Cond} {c : Cond} (ha : GoodIn big (c :: a)) (hb : GoodIn big b) : GoodIn big (c :: (a ++ b)) := fun w h => (List.mem_cons.mp h).elim (fun e => ha w (List.mem_cons.mpr (Or.inl e))) (fun h => (List.mem_append.mp h).elim (fun h => ha w (List.mem_cons.mpr (Or.inr h))) (hb w))
theorem goodIn_sub {big ws : List Cond} (hm : ∀ w ∈ ws, w ∈ big) (h : ws.all goodWord = true) : GoodIn big ws := fun w hw => ⟨hm w hw, good_of_word (List.all_eq_true.mp h w hw)⟩
/-! ===== END ===== -/

/-! ===== BEGIN printed: names, fields, word lists, decode rows ===== -/
def RX0 : String := "ParcelShelves$History"
def TX0 : u_T := fun k => match k with
  | 0 => ("ParcelShelves$History", "rows", "[LParcelShelves$Shop;", true)
  | 1 => ("ParcelShelves$History", "oldest", "I", false)
  | _ => ("ParcelShelves$History", "count", "I", false)
def tyX0 : Nat → FieldType := fun k => match k with
  | 0 => .array (.object "ParcelShelves$Shop")
  | 1 => .int
  | _ => .int
abbrev wsX00 : List Cond := u_ws RX0 TX0 3
theorem nmX0 : ∀ a, a < 3 → ∀ b, b < 3 → a ≠ b → (TX0 a).2.1 ≠ (TX0 b).2.1 := by decide +kernel
theorem tyX0_ok : ∀ k, k < 3 → parseFieldDescriptor (TX0 k).2.2.1 = some (tyX0 k) := by decide +kernel
abbrev cX0_init : ByteArray := prog_2_method_1_code
def yX0_init : MethodName := ⟨RX0, "<init>", "()V"⟩
abbrev cX0_prepare : ByteArray := prog_2_method_2_code
def yX0_prepare : MethodName := ⟨RX0, "prepare", "(LParcelShelves$Shop;)V"⟩
abbrev cX0_keepPrepared : ByteArray := prog_2_method_3_code
def yX0_keepPrepared : MethodName := ⟨RX0, "keepPrepared", "()V"⟩
abbrev cX0_takeBack : ByteArray := prog_2_method_4_code
def yX0_takeBack : MethodName := ⟨RX0, "takeBack", "(LParcelShelves$Shop;)I"⟩
def RX1 : String := "ParcelShelves$Shop"
def TX1 : u_T := fun k => match k with
  | 0 => ("ParcelShelves$Shop", "settings", "[I", true)
  | 1 => ("ParcelShelves$Shop", "today", "I", false)
  | 2 => ("ParcelShelves$Shop", "wrongCodes", "I", false)
  | 3 => ("ParcelShelves$Shop", "cameSoFar", "I", false)
  | 4 => ("ParcelShelves$Shop", "feesPaid", "I", false)
  | 5 => ("ParcelShelves$Shop", "weekdays", "[I", true)
  | 6 => ("ParcelShelves$Shop", "senders", "[I", true)
  | 7 => ("ParcelShelves$Shop", "sizes", "[I", true)
  | 8 => ("ParcelShelves$Shop", "cameOn", "[I", true)
  | 9 => ("ParcelShelves$Shop", "leftOn", "[I", true)
  | 10 => ("ParcelShelves$Shop", "bins", "[I", true)
  | 11 => ("ParcelShelves$Shop", "charged", "[I", true)
  | 12 => ("ParcelShelves$Shop", "fetched", "[I", true)
  | _ => ("ParcelShelves$Shop", "taken", "[I", true)
def tyX1 : Nat → FieldType := fun k => match k with
  | 0 => .array .int
  | 1 => .int
  | 2 => .int
  | 3 => .int
  | 4 => .int
  | 5 => .array .int
  | 6 => .array .int
  | 7 => .array .int
  | 8 => .array .int
  | 9 => .array .int
  | 10 => .array .int
  | 11 => .array .int
  | 12 => .array .int
  | _ => .array .int
abbrev wsX10 : List Cond := u_ws RX1 TX1 14
theorem nmX1 : ∀ a, a < 14 → ∀ b, b < 14 → a ≠ b → (TX1 a).2.1 ≠ (TX1 b).2.1 := by decide +kernel
theorem tyX1_ok : ∀ k, k < 14 → parseFieldDescriptor (TX1 k).2.2.1 = some (tyX1 k) := by decide +kernel
abbrev cX1_init : ByteArray := prog_3_method_1_code
def yX1_init : MethodName := ⟨RX1, "<init>", "()V"⟩
abbrev cX1_copyFrom : ByteArray := prog_3_method_2_code
def yX1_copyFrom : MethodName := ⟨RX1, "copyFrom", "(LParcelShelves$Shop;)V"⟩
abbrev cX1_isFree : ByteArray := prog_3_method_3_code
def yX1_isFree : MethodName := ⟨RX1, "isFree", "(I)Z"⟩
abbrev cX1_codeOn : ByteArray := prog_3_method_4_code
def yX1_codeOn : MethodName := ⟨RX1, "codeOn", "(I)I"⟩
abbrev cX1_isLocked : ByteArray := prog_3_method_5_code
def yX1_isLocked : MethodName := ⟨RX1, "isLocked", "()Z"⟩
abbrev cX1_rests : ByteArray := prog_3_method_6_code
def yX1_rests : MethodName := ⟨RX1, "rests", "(I)Z"⟩
abbrev cX1_restsToday : ByteArray := prog_3_method_7_code
def yX1_restsToday : MethodName := ⟨RX1, "restsToday", "(I)Z"⟩
abbrev cX1_placeWith : ByteArray := prog_3_method_8_code
def yX1_placeWith : MethodName := ⟨RX1, "placeWith", "(I)I"⟩
abbrev cX1_placeToGive : ByteArray := prog_3_method_9_code
def yX1_placeToGive : MethodName := ⟨RX1, "placeToGive", "(II)I"⟩
abbrev cX1_hasFreePlace : ByteArray := prog_3_method_10_code
def yX1_hasFreePlace : MethodName := ⟨RX1, "hasFreePlace", "(II)Z"⟩
abbrev cX1_put : ByteArray := prog_3_method_11_code
def yX1_put : MethodName := ⟨RX1, "put", "(IIII)V"⟩
abbrev cX1_leave : ByteArray := prog_3_method_12_code
def yX1_leave : MethodName := ⟨RX1, "leave", "(I)V"⟩
abbrev cX1_feeAfter : ByteArray := prog_3_method_13_code
def yX1_feeAfter : MethodName := ⟨RX1, "feeAfter", "(II)I"⟩
abbrev cX1_beginDay : ByteArray := prog_3_method_14_code
def yX1_beginDay : MethodName := ⟨RX1, "beginDay", "()I"⟩
abbrev cX1_letCourierCome : ByteArray := prog_3_method_15_code
def yX1_letCourierCome : MethodName := ⟨RX1, "letCourierCome", "()V"⟩
abbrev cX1_emptyBin : ByteArray := prog_3_method_16_code
def yX1_emptyBin : MethodName := ⟨RX1, "emptyBin", "(II)I"⟩
abbrev cX1_returnParcelsKeptTooLong : ByteArray := prog_3_method_17_code
def yX1_returnParcelsKeptTooLong : MethodName := ⟨RX1, "returnParcelsKeptTooLong", "()I"⟩
abbrev cX1_isKeptTooLong : ByteArray := prog_3_method_18_code
def yX1_isKeptTooLong : MethodName := ⟨RX1, "isKeptTooLong", "(I)Z"⟩
abbrev cX1_parcelsOnShelves : ByteArray := prog_3_method_19_code
def yX1_parcelsOnShelves : MethodName := ⟨RX1, "parcelsOnShelves", "()I"⟩
abbrev cX1_parcelsOnShelf : ByteArray := prog_3_method_20_code
def yX1_parcelsOnShelf : MethodName := ⟨RX1, "parcelsOnShelf", "(I)I"⟩
abbrev cX1_restingOnShelf : ByteArray := prog_3_method_21_code
def yX1_restingOnShelf : MethodName := ⟨RX1, "restingOnShelf", "(I)I"⟩
abbrev cX1_parcelsOfSender : ByteArray := prog_3_method_22_code
def yX1_parcelsOfSender : MethodName := ⟨RX1, "parcelsOfSender", "(I)I"⟩
abbrev cX1_feesOnShelves : ByteArray := prog_3_method_23_code
def yX1_feesOnShelves : MethodName := ⟨RX1, "feesOnShelves", "()I"⟩
def RX2 : String := "ParcelShelves$Text"
def TX2 : u_T := fun k => match k with
  | 0 => ("ParcelShelves$Text", "signs", "[C", true)
  | _ => ("ParcelShelves$Text", "length", "I", false)
def tyX2 : Nat → FieldType := fun k => match k with
  | 0 => .array .char
  | _ => .int
abbrev wsX20 : List Cond := u_ws RX2 TX2 2
theorem nmX2 : ∀ a, a < 2 → ∀ b, b < 2 → a ≠ b → (TX2 a).2.1 ≠ (TX2 b).2.1 := by decide +kernel
theorem tyX2_ok : ∀ k, k < 2 → parseFieldDescriptor (TX2 k).2.2.1 = some (tyX2 k) := by decide +kernel
abbrev cX2_init : ByteArray := prog_4_method_1_code
def yX2_init : MethodName := ⟨RX2, "<init>", "()V"⟩
abbrev cX2_isFull : ByteArray := prog_4_method_2_code
def yX2_isFull : MethodName := ⟨RX2, "isFull", "()Z"⟩
abbrev cX2_add : ByteArray := prog_4_method_3_code
def yX2_add : MethodName := ⟨RX2, "add", "(C)I"⟩
abbrev cX2_empty : ByteArray := prog_4_method_4_code
def yX2_empty : MethodName := ⟨RX2, "empty", "()I"⟩
abbrev cX2_signAt : ByteArray := prog_4_method_5_code
def yX2_signAt : MethodName := ⟨RX2, "signAt", "(I)C"⟩
abbrev cX2_firstError : ByteArray := prog_4_method_6_code
def yX2_firstError : MethodName := ⟨RX2, "firstError", "()I"⟩
abbrev cX2_isEndAllowed : ByteArray := prog_4_method_7_code
def yX2_isEndAllowed : MethodName := ⟨RX2, "isEndAllowed", "(I)Z"⟩
abbrev cX2_phaseAfter : ByteArray := prog_4_method_8_code
def yX2_phaseAfter : MethodName := ⟨RX2, "phaseAfter", "(IC)I"⟩
abbrev cX2_phaseAfterLetter : ByteArray := prog_4_method_9_code
def yX2_phaseAfterLetter : MethodName := ⟨RX2, "phaseAfterLetter", "(C)I"⟩
abbrev cX2_phaseAfterFirstDigit : ByteArray := prog_4_method_10_code
def yX2_phaseAfterFirstDigit : MethodName := ⟨RX2, "phaseAfterFirstDigit", "(C)I"⟩
abbrev cX2_phaseInCode : ByteArray := prog_4_method_11_code
def yX2_phaseInCode : MethodName := ⟨RX2, "phaseInCode", "(IC)I"⟩
abbrev cX2_isDigit : ByteArray := prog_4_method_12_code
def yX2_isDigit : MethodName := ⟨RX2, "isDigit", "(C)Z"⟩
abbrev cX2_sizeOf : ByteArray := prog_4_method_13_code
def yX2_sizeOf : MethodName := ⟨RX2, "sizeOf", "(C)I"⟩
abbrev cX2_sizeAt : ByteArray := prog_4_method_14_code
def yX2_sizeAt : MethodName := ⟨RX2, "sizeAt", "(I)I"⟩
abbrev cX2_numberAt : ByteArray := prog_4_method_15_code
def yX2_numberAt : MethodName := ⟨RX2, "numberAt", "(II)I"⟩
abbrev cX2_isStartOfCommand : ByteArray := prog_4_method_16_code
def yX2_isStartOfCommand : MethodName := ⟨RX2, "isStartOfCommand", "(I)Z"⟩
abbrev cX2_endOfCommand : ByteArray := prog_4_method_17_code
def yX2_endOfCommand : MethodName := ⟨RX2, "endOfCommand", "(I)I"⟩
def RX3 : String := "ParcelShelves"
def TX3 : u_T := fun k => match k with
  | 0 => ("ParcelShelves", "now", "LParcelShelves$Shop;", true)
  | 1 => ("ParcelShelves", "saved", "LParcelShelves$Shop;", true)
  | 2 => ("ParcelShelves", "ahead", "LParcelShelves$Shop;", true)
  | 3 => ("ParcelShelves", "history", "LParcelShelves$History;", true)
  | 4 => ("ParcelShelves", "text", "LParcelShelves$Text;", true)
  | 5 => ("ParcelShelves", "isSaved", "Z", false)
  | 6 => ("ParcelShelves", "reason", "I", false)
  | _ => ("ParcelShelves", "behind", "I", false)
def tyX3 : Nat → FieldType := fun k => match k with
  | 0 => .object "ParcelShelves$Shop"
  | 1 => .object "ParcelShelves$Shop"
  | 2 => .object "ParcelShelves$Shop"
  | 3 => .object "ParcelShelves$History"
  | 4 => .object "ParcelShelves$Text"
  | 5 => .boolean
  | 6 => .int
  | _ => .int
abbrev wsX30 : List Cond := u_ws RX3 TX3 8
theorem nmX3 : ∀ a, a < 8 → ∀ b, b < 8 → a ≠ b → (TX3 a).2.1 ≠ (TX3 b).2.1 := by decide +kernel
theorem tyX3_ok : ∀ k, k < 8 → parseFieldDescriptor (TX3 k).2.2.1 = some (tyX3 k) := by decide +kernel
abbrev cX3_init : ByteArray := prog_1_method_1_code
def yX3_init : MethodName := ⟨RX3, "<init>", "()V"⟩
abbrev cX3_set : ByteArray := prog_1_method_2_code
def yX3_set : MethodName := ⟨RX3, "set", "(II)I"⟩
abbrev cX3_setting : ByteArray := prog_1_method_3_code
def yX3_setting : MethodName := ⟨RX3, "setting", "(I)I"⟩
abbrev cX3_come : ByteArray := prog_1_method_4_code
def yX3_come : MethodName := ⟨RX3, "come", "(II)I"⟩
abbrev cX3_fetch : ByteArray := prog_1_method_5_code
def yX3_fetch : MethodName := ⟨RX3, "fetch", "(I)I"⟩
abbrev cX3_refuse : ByteArray := prog_1_method_6_code
def yX3_refuse : MethodName := ⟨RX3, "refuse", "(I)I"⟩
abbrev cX3_move : ByteArray := prog_1_method_7_code
def yX3_move : MethodName := ⟨RX3, "move", "(II)I"⟩
abbrev cX3_pass : ByteArray := prog_1_method_8_code
def yX3_pass : MethodName := ⟨RX3, "pass", "(I)I"⟩
abbrev cX3_call : ByteArray := prog_1_method_9_code
def yX3_call : MethodName := ⟨RX3, "call", "(I)I"⟩
abbrev cX3_day : ByteArray := prog_1_method_10_code
def yX3_day : MethodName := ⟨RX3, "day", "()I"⟩
abbrev cX3_parcel : ByteArray := prog_1_method_11_code
def yX3_parcel : MethodName := ⟨RX3, "parcel", "(II)I"⟩
abbrev cX3_codeAt : ByteArray := prog_1_method_12_code
def yX3_codeAt : MethodName := ⟨RX3, "codeAt", "(II)I"⟩
abbrev cX3_shelf : ByteArray := prog_1_method_13_code
def yX3_shelf : MethodName := ⟨RX3, "shelf", "(II)I"⟩
abbrev cX3_sender : ByteArray := prog_1_method_14_code
def yX3_sender : MethodName := ⟨RX3, "sender", "(II)I"⟩
abbrev cX3_total : ByteArray := prog_1_method_15_code
def yX3_total : MethodName := ⟨RX3, "total", "(I)I"⟩
abbrev cX3_refusal : ByteArray := prog_1_method_16_code
def yX3_refusal : MethodName := ⟨RX3, "refusal", "(I)I"⟩
abbrev cX3_isCode : ByteArray := prog_1_method_17_code
def yX3_isCode : MethodName := ⟨RX3, "isCode", "(I)I"⟩
abbrev cX3_codeOf : ByteArray := prog_1_method_18_code
def yX3_codeOf : MethodName := ⟨RX3, "codeOf", "(III)I"⟩
abbrev cX3_restsUntil : ByteArray := prog_1_method_19_code
def yX3_restsUntil : MethodName := ⟨RX3, "restsUntil", "(I)I"⟩
abbrev cX3_nextCode : ByteArray := prog_1_method_20_code
def yX3_nextCode : MethodName := ⟨RX3, "nextCode", "(I)I"⟩
abbrev cX3_feeIn : ByteArray := prog_1_method_21_code
def yX3_feeIn : MethodName := ⟨RX3, "feeIn", "(II)I"⟩
abbrev cX3_goesIn : ByteArray := prog_1_method_22_code
def yX3_goesIn : MethodName := ⟨RX3, "goesIn", "(I)I"⟩
abbrev cX3_chargesIn : ByteArray := prog_1_method_23_code
def yX3_chargesIn : MethodName := ⟨RX3, "chargesIn", "(I)I"⟩
abbrev cX3_append : ByteArray := prog_1_method_24_code
def yX3_append : MethodName := ⟨RX3, "append", "(I)I"⟩
abbrev cX3_clearText : ByteArray := prog_1_method_25_code
def yX3_clearText : MethodName := ⟨RX3, "clearText", "()I"⟩
abbrev cX3_errorPosition : ByteArray := prog_1_method_26_code
def yX3_errorPosition : MethodName := ⟨RX3, "errorPosition", "()I"⟩
abbrev cX3_execute : ByteArray := prog_1_method_27_code
def yX3_execute : MethodName := ⟨RX3, "execute", "()I"⟩
abbrev cX3_undo : ByteArray := prog_1_method_28_code
def yX3_undo : MethodName := ⟨RX3, "undo", "()I"⟩
abbrev cX3_save : ByteArray := prog_1_method_29_code
def yX3_save : MethodName := ⟨RX3, "save", "()I"⟩
abbrev cX3_restore : ByteArray := prog_1_method_30_code
def yX3_restore : MethodName := ⟨RX3, "restore", "()I"⟩
abbrev cX3_changeSetting : ByteArray := prog_1_method_31_code
def yX3_changeSetting : MethodName := ⟨RX3, "changeSetting", "(II)I"⟩
abbrev cX3_letCome : ByteArray := prog_1_method_32_code
def yX3_letCome : MethodName := ⟨RX3, "letCome", "(II)I"⟩
abbrev cX3_letFetch : ByteArray := prog_1_method_33_code
def yX3_letFetch : MethodName := ⟨RX3, "letFetch", "(I)I"⟩
abbrev cX3_letRefuse : ByteArray := prog_1_method_34_code
def yX3_letRefuse : MethodName := ⟨RX3, "letRefuse", "(I)I"⟩
abbrev cX3_moveParcel : ByteArray := prog_1_method_35_code
def yX3_moveParcel : MethodName := ⟨RX3, "moveParcel", "(II)I"⟩
abbrev cX3_letPass : ByteArray := prog_1_method_36_code
def yX3_letPass : MethodName := ⟨RX3, "letPass", "(I)I"⟩
abbrev cX3_callCourier : ByteArray := prog_1_method_37_code
def yX3_callCourier : MethodName := ⟨RX3, "callCourier", "(I)I"⟩
abbrev cX3_executeCommand : ByteArray := prog_1_method_38_code
def yX3_executeCommand : MethodName := ⟨RX3, "executeCommand", "(I)I"⟩
abbrev cX3_recorded : ByteArray := prog_1_method_39_code
def yX3_recorded : MethodName := ⟨RX3, "recorded", "(I)I"⟩
abbrev cX3_isError : ByteArray := prog_1_method_40_code
def yX3_isError : MethodName := ⟨RX3, "isError", "(I)Z"⟩
abbrev cX3_refuseFor : ByteArray := prog_1_method_41_code
def yX3_refuseFor : MethodName := ⟨RX3, "refuseFor", "(II)V"⟩
abbrev cX3_refuseForNoPlace : ByteArray := prog_1_method_42_code
def yX3_refuseForNoPlace : MethodName := ⟨RX3, "refuseForNoPlace", "(II)V"⟩
abbrev cX3_refuseForNoParcel : ByteArray := prog_1_method_43_code
def yX3_refuseForNoParcel : MethodName := ⟨RX3, "refuseForNoParcel", "(I)V"⟩
abbrev cX3_isWithin : ByteArray := prog_1_method_44_code
def yX3_isWithin : MethodName := ⟨RX3, "isWithin", "(III)Z"⟩
abbrev cX3_sum : ByteArray := prog_1_method_45_code
def yX3_sum : MethodName := ⟨RX3, "sum", "([I)I"⟩
abbrev cX3_isPlace : ByteArray := prog_1_method_46_code
def yX3_isPlace : MethodName := ⟨RX3, "isPlace", "(II)Z"⟩
abbrev cX3_sizeOfShelf : ByteArray := prog_1_method_47_code
def yX3_sizeOfShelf : MethodName := ⟨RX3, "sizeOfShelf", "(I)I"⟩
abbrev cX3_firstShelfFor : ByteArray := prog_1_method_48_code
def yX3_firstShelfFor : MethodName := ⟨RX3, "firstShelfFor", "(I)I"⟩
abbrev cX3_checkDigit : ByteArray := prog_1_method_49_code
def yX3_checkDigit : MethodName := ⟨RX3, "checkDigit", "(III)I"⟩
abbrev cX3_weekdayOf : ByteArray := prog_1_method_50_code
def yX3_weekdayOf : MethodName := ⟨RX3, "weekdayOf", "(I)I"⟩
abbrev cX3_codeFor : ByteArray := prog_1_method_51_code
def yX3_codeFor : MethodName := ⟨RX3, "codeFor", "(II)I"⟩
abbrev cX3_indexFor : ByteArray := prog_1_method_52_code
def yX3_indexFor : MethodName := ⟨RX3, "indexFor", "(II)I"⟩
abbrev cX3_indexOfCode : ByteArray := prog_1_method_53_code
def yX3_indexOfCode : MethodName := ⟨RX3, "indexOfCode", "(I)I"⟩
def RX4 : String := "ParcelShelvesModel"
def TX4 : u_T := fun k => match k with
  | 0 => ("ParcelShelvesModel", "z", "[I", true)
  | 1 => ("ParcelShelvesModel", "past", "[I", true)
  | 2 => ("ParcelShelvesModel", "pastMany", "I", false)
  | 3 => ("ParcelShelvesModel", "kept", "[I", true)
  | 4 => ("ParcelShelvesModel", "isKept", "Z", false)
  | 5 => ("ParcelShelvesModel", "aside", "[I", true)
  | 6 => ("ParcelShelvesModel", "reason", "I", false)
  | 7 => ("ParcelShelvesModel", "behind", "I", false)
  | 8 => ("ParcelShelvesModel", "buffer", "[C", true)
  | 9 => ("ParcelShelvesModel", "typed", "I", false)
  | 10 => ("ParcelShelvesModel", "told", "[I", true)
  | 11 => ("ParcelShelvesModel", "toldMany", "I", false)
  | 12 => ("ParcelShelvesModel", "spot", "I", false)
  | _ => ("ParcelShelvesModel", "wrong", "I", false)
def tyX4 : Nat → FieldType := fun k => match k with
  | 0 => .array .int
  | 1 => .array .int
  | 2 => .int
  | 3 => .array .int
  | 4 => .boolean
  | 5 => .array .int
  | 6 => .int
  | 7 => .int
  | 8 => .array .char
  | 9 => .int
  | 10 => .array .int
  | 11 => .int
  | 12 => .int
  | _ => .int
abbrev wsX40 : List Cond := u_ws RX4 TX4 14
theorem nmX4 : ∀ a, a < 14 → ∀ b, b < 14 → a ≠ b → (TX4 a).2.1 ≠ (TX4 b).2.1 := by decide +kernel
theorem tyX4_ok : ∀ k, k < 14 → parseFieldDescriptor (TX4 k).2.2.1 = some (tyX4 k) := by decide +kernel
abbrev cX4_init : ByteArray := prog_6_method_1_code
def yX4_init : MethodName := ⟨RX4, "<init>", "()V"⟩
abbrev cX4_in : ByteArray := prog_6_method_2_code
def yX4_in : MethodName := ⟨RX4, "in", "(III)Z"⟩
abbrev cX4_record : ByteArray := prog_6_method_3_code
def yX4_record : MethodName := ⟨RX4, "record", "()V"⟩
abbrev cX4_undo : ByteArray := prog_6_method_4_code
def yX4_undo : MethodName := ⟨RX4, "undo", "()I"⟩
abbrev cX4_save : ByteArray := prog_6_method_5_code
def yX4_save : MethodName := ⟨RX4, "save", "()I"⟩
abbrev cX4_restore : ByteArray := prog_6_method_6_code
def yX4_restore : MethodName := ⟨RX4, "restore", "()I"⟩
abbrev cX4_putAside : ByteArray := prog_6_method_7_code
def yX4_putAside : MethodName := ⟨RX4, "putAside", "()V"⟩
abbrev cX4_takeBack : ByteArray := prog_6_method_8_code
def yX4_takeBack : MethodName := ⟨RX4, "takeBack", "()V"⟩
abbrev cX4_isInRange : ByteArray := prog_6_method_9_code
def yX4_isInRange : MethodName := ⟨RX4, "isInRange", "(II)Z"⟩
abbrev cX4_set : ByteArray := prog_6_method_10_code
def yX4_set : MethodName := ⟨RX4, "set", "(II)I"⟩
abbrev cX4_setting : ByteArray := prog_6_method_11_code
def yX4_setting : MethodName := ⟨RX4, "setting", "(I)I"⟩
abbrev cX4_at : ByteArray := prog_6_method_12_code
def yX4_at : MethodName := ⟨RX4, "at", "(II)I"⟩
abbrev cX4_isTaken : ByteArray := prog_6_method_13_code
def yX4_isTaken : MethodName := ⟨RX4, "isTaken", "(I)Z"⟩
abbrev cX4_weekday : ByteArray := prog_6_method_14_code
def yX4_weekday : MethodName := ⟨RX4, "weekday", "(I)I"⟩
abbrev cX4_codeBy : ByteArray := prog_6_method_15_code
def yX4_codeBy : MethodName := ⟨RX4, "codeBy", "(II)I"⟩
abbrev cX4_indexOf : ByteArray := prog_6_method_16_code
def yX4_indexOf : MethodName := ⟨RX4, "indexOf", "(I)I"⟩
abbrev cX4_codeOn : ByteArray := prog_6_method_17_code
def yX4_codeOn : MethodName := ⟨RX4, "codeOn", "(I)I"⟩
abbrev cX4_placeBy : ByteArray := prog_6_method_18_code
def yX4_placeBy : MethodName := ⟨RX4, "placeBy", "(I)I"⟩
abbrev cX4_restsOf : ByteArray := prog_6_method_19_code
def yX4_restsOf : MethodName := ⟨RX4, "restsOf", "(I)I"⟩
abbrev cX4_rests : ByteArray := prog_6_method_20_code
def yX4_rests : MethodName := ⟨RX4, "rests", "(I)Z"⟩
abbrev cX4_firstPlace : ByteArray := prog_6_method_21_code
def yX4_firstPlace : MethodName := ⟨RX4, "firstPlace", "(II)I"⟩
abbrev cX4_refusePlace : ByteArray := prog_6_method_22_code
def yX4_refusePlace : MethodName := ⟨RX4, "refusePlace", "(II)I"⟩
abbrev cX4_refuseBy : ByteArray := prog_6_method_23_code
def yX4_refuseBy : MethodName := ⟨RX4, "refuseBy", "(III)I"⟩
abbrev cX4_refuseCode : ByteArray := prog_6_method_24_code
def yX4_refuseCode : MethodName := ⟨RX4, "refuseCode", "(I)I"⟩
abbrev cX4_lay : ByteArray := prog_6_method_25_code
def yX4_lay : MethodName := ⟨RX4, "lay", "(IIII)V"⟩
abbrev cX4_leave : ByteArray := prog_6_method_26_code
def yX4_leave : MethodName := ⟨RX4, "leave", "(I)V"⟩
abbrev cX4_isSender : ByteArray := prog_6_method_27_code
def yX4_isSender : MethodName := ⟨RX4, "isSender", "(I)Z"⟩
abbrev cX4_ofSender : ByteArray := prog_6_method_28_code
def yX4_ofSender : MethodName := ⟨RX4, "ofSender", "(II)I"⟩
abbrev cX4_count : ByteArray := prog_6_method_29_code
def yX4_count : MethodName := ⟨RX4, "count", "(III)V"⟩
abbrev cX4_whyNotCome : ByteArray := prog_6_method_30_code
def yX4_whyNotCome : MethodName := ⟨RX4, "whyNotCome", "(II)I"⟩
abbrev cX4_comes : ByteArray := prog_6_method_31_code
def yX4_comes : MethodName := ⟨RX4, "comes", "(II)I"⟩
abbrev cX4_come : ByteArray := prog_6_method_32_code
def yX4_come : MethodName := ⟨RX4, "come", "(II)I"⟩
abbrev cX4_feeOn : ByteArray := prog_6_method_33_code
def yX4_feeOn : MethodName := ⟨RX4, "feeOn", "(II)I"⟩
abbrev cX4_isLocked : ByteArray := prog_6_method_34_code
def yX4_isLocked : MethodName := ⟨RX4, "isLocked", "()Z"⟩
abbrev cX4_whyNotFetch : ByteArray := prog_6_method_35_code
def yX4_whyNotFetch : MethodName := ⟨RX4, "whyNotFetch", "(I)I"⟩
abbrev cX4_fetches : ByteArray := prog_6_method_36_code
def yX4_fetches : MethodName := ⟨RX4, "fetches", "(I)I"⟩
abbrev cX4_fetch : ByteArray := prog_6_method_37_code
def yX4_fetch : MethodName := ⟨RX4, "fetch", "(I)I"⟩
abbrev cX4_whyNotRefuse : ByteArray := prog_6_method_38_code
def yX4_whyNotRefuse : MethodName := ⟨RX4, "whyNotRefuse", "(I)I"⟩
abbrev cX4_goesBack : ByteArray := prog_6_method_39_code
def yX4_goesBack : MethodName := ⟨RX4, "goesBack", "(I)I"⟩
abbrev cX4_refuse : ByteArray := prog_6_method_40_code
def yX4_refuse : MethodName := ⟨RX4, "refuse", "(I)I"⟩
abbrev cX4_whyNotMove : ByteArray := prog_6_method_41_code
def yX4_whyNotMove : MethodName := ⟨RX4, "whyNotMove", "(II)I"⟩
abbrev cX4_moves : ByteArray := prog_6_method_42_code
def yX4_moves : MethodName := ⟨RX4, "moves", "(II)I"⟩
abbrev cX4_move : ByteArray := prog_6_method_43_code
def yX4_move : MethodName := ⟨RX4, "move", "(II)I"⟩
abbrev cX4_whyNotPass : ByteArray := prog_6_method_44_code
def yX4_whyNotPass : MethodName := ⟨RX4, "whyNotPass", "(I)I"⟩
abbrev cX4_takes : ByteArray := prog_6_method_45_code
def yX4_takes : MethodName := ⟨RX4, "takes", "(II)I"⟩
abbrev cX4_begins : ByteArray := prog_6_method_46_code
def yX4_begins : MethodName := ⟨RX4, "begins", "()I"⟩
abbrev cX4_passes : ByteArray := prog_6_method_47_code
def yX4_passes : MethodName := ⟨RX4, "passes", "(I)I"⟩
abbrev cX4_pass : ByteArray := prog_6_method_48_code
def yX4_pass : MethodName := ⟨RX4, "pass", "(I)I"⟩
abbrev cX4_call : ByteArray := prog_6_method_49_code
def yX4_call : MethodName := ⟨RX4, "call", "(I)I"⟩
abbrev cX4_day : ByteArray := prog_6_method_50_code
def yX4_day : MethodName := ⟨RX4, "day", "()I"⟩
abbrev cX4_parcel : ByteArray := prog_6_method_51_code
def yX4_parcel : MethodName := ⟨RX4, "parcel", "(II)I"⟩
abbrev cX4_isPlace : ByteArray := prog_6_method_52_code
def yX4_isPlace : MethodName := ⟨RX4, "isPlace", "(II)Z"⟩
abbrev cX4_codeAt : ByteArray := prog_6_method_53_code
def yX4_codeAt : MethodName := ⟨RX4, "codeAt", "(II)I"⟩
abbrev cX4_shelf : ByteArray := prog_6_method_54_code
def yX4_shelf : MethodName := ⟨RX4, "shelf", "(II)I"⟩
abbrev cX4_sender : ByteArray := prog_6_method_55_code
def yX4_sender : MethodName := ⟨RX4, "sender", "(II)I"⟩
abbrev cX4_parcels : ByteArray := prog_6_method_56_code
def yX4_parcels : MethodName := ⟨RX4, "parcels", "()I"⟩
abbrev cX4_inBins : ByteArray := prog_6_method_57_code
def yX4_inBins : MethodName := ⟨RX4, "inBins", "()I"⟩
abbrev cX4_fees : ByteArray := prog_6_method_58_code
def yX4_fees : MethodName := ⟨RX4, "fees", "()I"⟩
abbrev cX4_total : ByteArray := prog_6_method_59_code
def yX4_total : MethodName := ⟨RX4, "total", "(I)I"⟩
abbrev cX4_refusal : ByteArray := prog_6_method_60_code
def yX4_refusal : MethodName := ⟨RX4, "refusal", "(I)I"⟩
abbrev cX4_isCode : ByteArray := prog_6_method_61_code
def yX4_isCode : MethodName := ⟨RX4, "isCode", "(I)I"⟩
abbrev cX4_codeOf : ByteArray := prog_6_method_62_code
def yX4_codeOf : MethodName := ⟨RX4, "codeOf", "(III)I"⟩
abbrev cX4_restsUntil : ByteArray := prog_6_method_63_code
def yX4_restsUntil : MethodName := ⟨RX4, "restsUntil", "(I)I"⟩
abbrev cX4_nextCode : ByteArray := prog_6_method_64_code
def yX4_nextCode : MethodName := ⟨RX4, "nextCode", "(I)I"⟩
abbrev cX4_feeIn : ByteArray := prog_6_method_65_code
def yX4_feeIn : MethodName := ⟨RX4, "feeIn", "(II)I"⟩
abbrev cX4_goesIn : ByteArray := prog_6_method_66_code
def yX4_goesIn : MethodName := ⟨RX4, "goesIn", "(I)I"⟩
abbrev cX4_chargesIn : ByteArray := prog_6_method_67_code
def yX4_chargesIn : MethodName := ⟨RX4, "chargesIn", "(I)I"⟩
abbrev cX4_append : ByteArray := prog_6_method_68_code
def yX4_append : MethodName := ⟨RX4, "append", "(I)I"⟩
abbrev cX4_clearText : ByteArray := prog_6_method_69_code
def yX4_clearText : MethodName := ⟨RX4, "clearText", "()I"⟩
abbrev cX4_letter : ByteArray := prog_6_method_70_code
def yX4_letter : MethodName := ⟨RX4, "letter", "()I"⟩
abbrev cX4_wants : ByteArray := prog_6_method_71_code
def yX4_wants : MethodName := ⟨RX4, "wants", "(Z)V"⟩
abbrev cX4_figure : ByteArray := prog_6_method_72_code
def yX4_figure : MethodName := ⟨RX4, "figure", "(II)I"⟩
abbrev cX4_days : ByteArray := prog_6_method_73_code
def yX4_days : MethodName := ⟨RX4, "days", "()I"⟩
abbrev cX4_size : ByteArray := prog_6_method_74_code
def yX4_size : MethodName := ⟨RX4, "size", "()I"⟩
abbrev cX4_readCommand : ByteArray := prog_6_method_75_code
def yX4_readCommand : MethodName := ⟨RX4, "readCommand", "()V"⟩
abbrev cX4_errorPosition : ByteArray := prog_6_method_76_code
def yX4_errorPosition : MethodName := ⟨RX4, "errorPosition", "()I"⟩
abbrev cX4_executeOne : ByteArray := prog_6_method_77_code
def yX4_executeOne : MethodName := ⟨RX4, "executeOne", "(I)I"⟩
abbrev cX4_execute : ByteArray := prog_6_method_78_code
def yX4_execute : MethodName := ⟨RX4, "execute", "()I"⟩
def RJ9 : String := "java/lang/Math"
def TJ9 : u_T := fun k => match k with
  | _ => ("", "", "", false)
def tyJ9 : Nat → FieldType := fun k => match k with
  | _ => .int
abbrev wsJ90 : List Cond := u_ws RJ9 TJ9 0
theorem nmJ9 : ∀ a, a < 0 → ∀ b, b < 0 → a ≠ b → (TJ9 a).2.1 ≠ (TJ9 b).2.1 := by decide +kernel
theorem tyJ9_ok : ∀ k, k < 0 → parseFieldDescriptor (TJ9 k).2.2.1 = some (tyJ9 k) := by decide +kernel
abbrev cJ9_max_7cf53 : ByteArray := prog_7_method_65_code
def yJ9_max_7cf53 : MethodName := ⟨RJ9, "max", "(II)I"⟩
def RJ10 : String := "java/lang/System"
def TJ10 : u_T := fun k => match k with
  | _ => ("", "", "", false)
def tyJ10 : Nat → FieldType := fun k => match k with
  | _ => .int
abbrev wsJ100 : List Cond := u_ws RJ10 TJ10 0
theorem nmJ10 : ∀ a, a < 0 → ∀ b, b < 0 → a ≠ b → (TJ10 a).2.1 ≠ (TJ10 b).2.1 := by decide +kernel
theorem tyJ10_ok : ∀ k, k < 0 → parseFieldDescriptor (TJ10 k).2.2.1 = some (tyJ10 k) := by decide +kernel
def RJ7 : String := "java/util/Arrays"
def TJ7 : u_T := fun k => match k with
  | _ => ("", "", "", false)
def tyJ7 : Nat → FieldType := fun k => match k with
  | _ => .int
abbrev wsJ70 : List Cond := u_ws RJ7 TJ7 0
theorem nmJ7 : ∀ a, a < 0 → ∀ b, b < 0 → a ≠ b → (TJ7 a).2.1 ≠ (TJ7 b).2.1 := by decide +kernel
theorem tyJ7_ok : ∀ k, k < 0 → parseFieldDescriptor (TJ7 k).2.2.1 = some (tyJ7 k) := by decide +kernel
abbrev cJ7_fill_53178 : ByteArray := prog_9_method_103_code
def yJ7_fill_53178 : MethodName := ⟨RJ7, "fill", "([II)V"⟩
def RL : String := "ParcelShelvesLaw"
abbrev cL_law : ByteArray := code
def yL_law : MethodName := ⟨RL, "law", "([I)Z"⟩
def wsJ7_fill_53178 : List Cond := .code yJ7_fill_53178 cJ7_fill_53178 4 none :: ([])
def wsX1_init : List Cond := .code yX1_init cX1_init 1 none :: ([.methodLink RX1 3 objectInit, .instanceMethod objectInit, .code objectInit ⟨#[0xb1]⟩ 1 none, .arrayClass .int, .fieldLink RX1 9 "ParcelShelves$Shop" "settings" "[I", .fieldLink RX1 15 "ParcelShelves$Shop" "weekdays" "[I", .fieldLink RX1 18 "ParcelShelves$Shop" "senders" "[I", .fieldLink RX1 21 "ParcelShelves$Shop" "sizes" "[I", .fieldLink RX1 24 "ParcelShelves$Shop" "cameOn" "[I", .fieldLink RX1 27 "ParcelShelves$Shop" "leftOn" "[I", .fieldLink RX1 30 "ParcelShelves$Shop" "bins" "[I", .fieldLink RX1 33 "ParcelShelves$Shop" "charged" "[I", .fieldLink RX1 36 "ParcelShelves$Shop" "fetched" "[I", .fieldLink RX1 39 "ParcelShelves$Shop" "taken" "[I", .methodLink RX1 45 arraycopyName, .native arraycopyName, .static arraycopyName, .initialized "java/lang/System", .methodLink RX1 51 yJ7_fill_53178, .static yJ7_fill_53178, .initialized RJ7, .code yJ7_fill_53178 cJ7_fill_53178 4 none] ++ wsX10)
def wsX0_init_r1 : List Cond := [Cond.methodLink RX0 3 objectInit, Cond.instanceMethod objectInit, Cond.code objectInit ⟨#[0xb1]⟩ 1 none, Cond.classLink RX0 9 RX1, Cond.fieldLink RX0 11 "ParcelShelves$History" "rows" "[LParcelShelves$Shop;", Cond.instantiable RX1 14, Cond.initialized RX1, Cond.methodLink RX0 15 yX1_init, Cond.instanceMethod yX1_init, Cond.code yX1_init cX1_init 1 none, Cond.methodLink RX1 3 objectInit, Cond.arrayClass .int, Cond.fieldLink RX1 9 "ParcelShelves$Shop" "settings" "[I", Cond.fieldLink RX1 15 "ParcelShelves$Shop" "weekdays" "[I", Cond.fieldLink RX1 18 "ParcelShelves$Shop" "senders" "[I", Cond.fieldLink RX1 21 "ParcelShelves$Shop" "sizes" "[I", Cond.fieldLink RX1 24 "ParcelShelves$Shop" "cameOn" "[I", Cond.fieldLink RX1 27 "ParcelShelves$Shop" "leftOn" "[I", Cond.fieldLink RX1 30 "ParcelShelves$Shop" "bins" "[I", Cond.fieldLink RX1 33 "ParcelShelves$Shop" "charged" "[I", Cond.fieldLink RX1 36 "ParcelShelves$Shop" "fetched" "[I", Cond.fieldLink RX1 39 "ParcelShelves$Shop" "taken" "[I", Cond.methodLink RX1 45 arraycopyName, Cond.native arraycopyName]
def wsX0_init_r2 : List Cond := [Cond.static arraycopyName, Cond.initialized "java/lang/System", Cond.methodLink RX1 51 yJ7_fill_53178, Cond.static yJ7_fill_53178, Cond.initialized RJ7, Cond.code yJ7_fill_53178 cJ7_fill_53178 4 none]
def wsX0_init : List Cond := .code yX0_init cX0_init 2 none :: ((wsX0_init_r1 ++ wsX0_init_r2) ++ wsX00 ++ wsX10)
def wsX1_copyFrom : List Cond := .code yX1_copyFrom cX1_copyFrom 2 none :: ([.fieldLink RX1 57 "ParcelShelves$Shop" "today" "I", .fieldLink RX1 61 "ParcelShelves$Shop" "wrongCodes" "I", .fieldLink RX1 64 "ParcelShelves$Shop" "cameSoFar" "I", .fieldLink RX1 67 "ParcelShelves$Shop" "feesPaid" "I", .fieldLink RX1 9 "ParcelShelves$Shop" "settings" "[I", .methodLink RX1 45 arraycopyName, .native arraycopyName, .static arraycopyName, .initialized "java/lang/System", .fieldLink RX1 15 "ParcelShelves$Shop" "weekdays" "[I", .fieldLink RX1 18 "ParcelShelves$Shop" "senders" "[I", .fieldLink RX1 21 "ParcelShelves$Shop" "sizes" "[I", .fieldLink RX1 24 "ParcelShelves$Shop" "cameOn" "[I", .fieldLink RX1 27 "ParcelShelves$Shop" "leftOn" "[I", .fieldLink RX1 30 "ParcelShelves$Shop" "bins" "[I", .fieldLink RX1 33 "ParcelShelves$Shop" "charged" "[I", .fieldLink RX1 36 "ParcelShelves$Shop" "fetched" "[I", .fieldLink RX1 39 "ParcelShelves$Shop" "taken" "[I"] ++ wsX10)
def wsX0_prepare_r1 : List Cond := [Cond.fieldLink RX0 11 "ParcelShelves$History" "rows" "[LParcelShelves$Shop;", Cond.fieldLink RX0 16 "ParcelShelves$History" "oldest" "I", Cond.fieldLink RX0 20 "ParcelShelves$History" "count" "I", Cond.methodLink RX0 23 yX1_copyFrom, Cond.instanceMethod yX1_copyFrom, Cond.selects RX1 yX1_copyFrom yX1_copyFrom, Cond.initialized RX1, Cond.code yX1_copyFrom cX1_copyFrom 2 none, Cond.fieldLink RX1 57 "ParcelShelves$Shop" "today" "I", Cond.fieldLink RX1 61 "ParcelShelves$Shop" "wrongCodes" "I", Cond.fieldLink RX1 64 "ParcelShelves$Shop" "cameSoFar" "I", Cond.fieldLink RX1 67 "ParcelShelves$Shop" "feesPaid" "I", Cond.fieldLink RX1 9 "ParcelShelves$Shop" "settings" "[I", Cond.methodLink RX1 45 arraycopyName, Cond.native arraycopyName, Cond.static arraycopyName, Cond.initialized "java/lang/System", Cond.fieldLink RX1 15 "ParcelShelves$Shop" "weekdays" "[I", Cond.fieldLink RX1 18 "ParcelShelves$Shop" "senders" "[I", Cond.fieldLink RX1 21 "ParcelShelves$Shop" "sizes" "[I", Cond.fieldLink RX1 24 "ParcelShelves$Shop" "cameOn" "[I", Cond.fieldLink RX1 27 "ParcelShelves$Shop" "leftOn" "[I", Cond.fieldLink RX1 30 "ParcelShelves$Shop" "bins" "[I", Cond.fieldLink RX1 33 "ParcelShelves$Shop" "charged" "[I"]
def wsX0_prepare_r2 : List Cond := [Cond.fieldLink RX1 36 "ParcelShelves$Shop" "fetched" "[I", Cond.fieldLink RX1 39 "ParcelShelves$Shop" "taken" "[I"]
def wsX0_prepare : List Cond := .code yX0_prepare cX0_prepare 2 none :: ((wsX0_prepare_r1 ++ wsX0_prepare_r2) ++ wsX00 ++ wsX10)
def wsX0_keepPrepared : List Cond := .code yX0_keepPrepared cX0_keepPrepared 1 none :: ([.fieldLink RX0 20 "ParcelShelves$History" "count" "I", .fieldLink RX0 16 "ParcelShelves$History" "oldest" "I"] ++ wsX00)
def wsX0_takeBack_r1 : List Cond := [Cond.fieldLink RX0 20 "ParcelShelves$History" "count" "I", Cond.fieldLink RX0 11 "ParcelShelves$History" "rows" "[LParcelShelves$Shop;", Cond.fieldLink RX0 16 "ParcelShelves$History" "oldest" "I", Cond.methodLink RX0 23 yX1_copyFrom, Cond.instanceMethod yX1_copyFrom, Cond.selects RX1 yX1_copyFrom yX1_copyFrom, Cond.initialized RX1, Cond.code yX1_copyFrom cX1_copyFrom 2 none, Cond.fieldLink RX1 57 "ParcelShelves$Shop" "today" "I", Cond.fieldLink RX1 61 "ParcelShelves$Shop" "wrongCodes" "I", Cond.fieldLink RX1 64 "ParcelShelves$Shop" "cameSoFar" "I", Cond.fieldLink RX1 67 "ParcelShelves$Shop" "feesPaid" "I", Cond.fieldLink RX1 9 "ParcelShelves$Shop" "settings" "[I", Cond.methodLink RX1 45 arraycopyName, Cond.native arraycopyName, Cond.static arraycopyName, Cond.initialized "java/lang/System", Cond.fieldLink RX1 15 "ParcelShelves$Shop" "weekdays" "[I", Cond.fieldLink RX1 18 "ParcelShelves$Shop" "senders" "[I", Cond.fieldLink RX1 21 "ParcelShelves$Shop" "sizes" "[I", Cond.fieldLink RX1 24 "ParcelShelves$Shop" "cameOn" "[I", Cond.fieldLink RX1 27 "ParcelShelves$Shop" "leftOn" "[I", Cond.fieldLink RX1 30 "ParcelShelves$Shop" "bins" "[I", Cond.fieldLink RX1 33 "ParcelShelves$Shop" "charged" "[I"]
def wsX0_takeBack_r2 : List Cond := [Cond.fieldLink RX1 36 "ParcelShelves$Shop" "fetched" "[I", Cond.fieldLink RX1 39 "ParcelShelves$Shop" "taken" "[I"]
def wsX0_takeBack : List Cond := .code yX0_takeBack cX0_takeBack 2 (some .int) :: ((wsX0_takeBack_r1 ++ wsX0_takeBack_r2) ++ wsX00 ++ wsX10)
def wsX1_isFree : List Cond := .code yX1_isFree cX1_isFree 2 (some .boolean) :: ([.fieldLink RX1 15 "ParcelShelves$Shop" "weekdays" "[I"] ++ wsX10)
def wsX3_checkDigit : List Cond := .code yX3_checkDigit cX3_checkDigit 3 (some .int) :: ([])
def wsX3_codeFor : List Cond := .code yX3_codeFor cX3_codeFor 4 (some .int) :: ([.methodLink RX3 267 yX3_checkDigit, .static yX3_checkDigit, .initialized RX3, .code yX3_checkDigit cX3_checkDigit 3 (some .int)])
def wsX1_codeOn : List Cond := .code yX1_codeOn cX1_codeOn 2 (some .int) :: ([.fieldLink RX1 15 "ParcelShelves$Shop" "weekdays" "[I", .static yX3_codeFor, .initialized RX3, .code yX3_codeFor cX3_codeFor 4 (some .int), .methodLink RX3 267 yX3_checkDigit, .static yX3_checkDigit, .code yX3_checkDigit cX3_checkDigit 3 (some .int)] ++ wsX10)
def wsX1_isLocked : List Cond := .code yX1_isLocked cX1_isLocked 1 (some .boolean) :: ([.fieldLink RX1 61 "ParcelShelves$Shop" "wrongCodes" "I"] ++ wsX10)
def wsX1_rests : List Cond := .code yX1_rests cX1_rests 2 (some .boolean) :: ([.fieldLink RX1 27 "ParcelShelves$Shop" "leftOn" "[I", .fieldLink RX1 57 "ParcelShelves$Shop" "today" "I", .fieldLink RX1 9 "ParcelShelves$Shop" "settings" "[I"] ++ wsX10)
def wsX3_weekdayOf : List Cond := .code yX3_weekdayOf cX3_weekdayOf 1 (some .int) :: ([])
def wsX3_indexFor : List Cond := .code yX3_indexFor cX3_indexFor 2 (some .int) :: ([])
def wsX1_restsToday : List Cond := .code yX1_restsToday cX1_restsToday 2 (some .boolean) :: ([.fieldLink RX1 57 "ParcelShelves$Shop" "today" "I", .static yX3_weekdayOf, .initialized RX3, .code yX3_weekdayOf cX3_weekdayOf 1 (some .int), .static yX3_indexFor, .code yX3_indexFor cX3_indexFor 2 (some .int), .methodLink RX1 81 yX1_rests, .instanceMethod yX1_rests, .selects RX1 yX1_rests yX1_rests, .initialized RX1, .code yX1_rests cX1_rests 2 (some .boolean), .fieldLink RX1 27 "ParcelShelves$Shop" "leftOn" "[I", .fieldLink RX1 9 "ParcelShelves$Shop" "settings" "[I"] ++ wsX10)
def wsX3_isWithin : List Cond := .code yX3_isWithin cX3_isWithin 3 (some .boolean) :: ([])
def wsX3_isPlace : List Cond := .code yX3_isPlace cX3_isPlace 2 (some .boolean) :: ([.methodLink RX3 59 yX3_isWithin, .static yX3_isWithin, .initialized RX3, .code yX3_isWithin cX3_isWithin 3 (some .boolean)])
def wsX3_indexOfCode : List Cond := .code yX3_indexOfCode cX3_indexOfCode 4 (some .int) :: ([.methodLink RX3 59 yX3_isWithin, .static yX3_isWithin, .initialized RX3, .code yX3_isWithin cX3_isWithin 3 (some .boolean), .methodLink RX3 103 yX3_isPlace, .static yX3_isPlace, .code yX3_isPlace cX3_isPlace 2 (some .boolean), .methodLink RX3 267 yX3_checkDigit, .static yX3_checkDigit, .code yX3_checkDigit cX3_checkDigit 3 (some .int), .methodLink RX3 271 yX3_indexFor, .static yX3_indexFor, .code yX3_indexFor cX3_indexFor 2 (some .int)])
def wsX1_placeWith : List Cond := .code yX1_placeWith cX1_placeWith 4 (some .int) :: ([.fieldLink RX1 15 "ParcelShelves$Shop" "weekdays" "[I", .static yX3_indexOfCode, .initialized RX3, .code yX3_indexOfCode cX3_indexOfCode 4 (some .int), .methodLink RX3 59 yX3_isWithin, .static yX3_isWithin, .code yX3_isWithin cX3_isWithin 3 (some .boolean), .methodLink RX3 103 yX3_isPlace, .static yX3_isPlace, .code yX3_isPlace cX3_isPlace 2 (some .boolean), .methodLink RX3 267 yX3_checkDigit, .static yX3_checkDigit, .code yX3_checkDigit cX3_checkDigit 3 (some .int), .methodLink RX3 271 yX3_indexFor, .static yX3_indexFor, .code yX3_indexFor cX3_indexFor 2 (some .int)] ++ wsX10)
def wsX1_placeToGive : List Cond := .code yX1_placeToGive cX1_placeToGive 5 (some .int) :: ([.methodLink RX1 88 yX1_isFree, .instanceMethod yX1_isFree, .selects RX1 yX1_isFree yX1_isFree, .initialized RX1, .code yX1_isFree cX1_isFree 2 (some .boolean), .fieldLink RX1 15 "ParcelShelves$Shop" "weekdays" "[I", .methodLink RX1 91 yX1_restsToday, .instanceMethod yX1_restsToday, .selects RX1 yX1_restsToday yX1_restsToday, .code yX1_restsToday cX1_restsToday 2 (some .boolean), .fieldLink RX1 57 "ParcelShelves$Shop" "today" "I", .static yX3_weekdayOf, .initialized RX3, .code yX3_weekdayOf cX3_weekdayOf 1 (some .int), .static yX3_indexFor, .code yX3_indexFor cX3_indexFor 2 (some .int), .methodLink RX1 81 yX1_rests, .instanceMethod yX1_rests, .selects RX1 yX1_rests yX1_rests, .code yX1_rests cX1_rests 2 (some .boolean), .fieldLink RX1 27 "ParcelShelves$Shop" "leftOn" "[I", .fieldLink RX1 9 "ParcelShelves$Shop" "settings" "[I"] ++ wsX10)
def wsX1_hasFreePlace : List Cond := .code yX1_hasFreePlace cX1_hasFreePlace 5 (some .boolean) :: ([.methodLink RX1 88 yX1_isFree, .instanceMethod yX1_isFree, .selects RX1 yX1_isFree yX1_isFree, .initialized RX1, .code yX1_isFree cX1_isFree 2 (some .boolean), .fieldLink RX1 15 "ParcelShelves$Shop" "weekdays" "[I"] ++ wsX10)
def wsX1_put : List Cond := .code yX1_put cX1_put 5 none :: ([.fieldLink RX1 15 "ParcelShelves$Shop" "weekdays" "[I", .fieldLink RX1 57 "ParcelShelves$Shop" "today" "I", .fieldLink RX1 18 "ParcelShelves$Shop" "senders" "[I", .fieldLink RX1 21 "ParcelShelves$Shop" "sizes" "[I", .fieldLink RX1 24 "ParcelShelves$Shop" "cameOn" "[I", .static yX3_weekdayOf, .initialized RX3, .code yX3_weekdayOf cX3_weekdayOf 1 (some .int)] ++ wsX10)
def wsX1_leave : List Cond := .code yX1_leave cX1_leave 2 none :: ([.fieldLink RX1 15 "ParcelShelves$Shop" "weekdays" "[I", .fieldLink RX1 27 "ParcelShelves$Shop" "leftOn" "[I", .fieldLink RX1 57 "ParcelShelves$Shop" "today" "I", .static yX3_indexFor, .initialized RX3, .code yX3_indexFor cX3_indexFor 2 (some .int)] ++ wsX10)
def wsX1_feeAfter : List Cond := .code yX1_feeAfter cX1_feeAfter 5 (some .int) :: ([.fieldLink RX1 57 "ParcelShelves$Shop" "today" "I", .fieldLink RX1 24 "ParcelShelves$Shop" "cameOn" "[I", .fieldLink RX1 9 "ParcelShelves$Shop" "settings" "[I", .methodLink RX1 94 Lib.Math.max.name, .static Lib.Math.max.name, .initialized "java/lang/Math", .code Lib.Math.max.name Lib.Math.max.code 2 (some .int), .fieldLink RX1 21 "ParcelShelves$Shop" "sizes" "[I"] ++ wsX10)
def wsX1_emptyBin : List Cond := .code yX1_emptyBin cX1_emptyBin 4 (some .int) :: ([.fieldLink RX1 9 "ParcelShelves$Shop" "settings" "[I", .fieldLink RX1 30 "ParcelShelves$Shop" "bins" "[I", .fieldLink RX1 33 "ParcelShelves$Shop" "charged" "[I", .fieldLink RX1 39 "ParcelShelves$Shop" "taken" "[I"] ++ wsX10)
def wsX1_letCourierCome : List Cond := .code yX1_letCourierCome cX1_letCourierCome 2 none :: ([.fieldLink RX1 30 "ParcelShelves$Shop" "bins" "[I", .fieldLink RX1 9 "ParcelShelves$Shop" "settings" "[I", .methodLink RX1 106 yX1_emptyBin, .instanceMethod yX1_emptyBin, .selects RX1 yX1_emptyBin yX1_emptyBin, .initialized RX1, .code yX1_emptyBin cX1_emptyBin 4 (some .int), .fieldLink RX1 33 "ParcelShelves$Shop" "charged" "[I", .fieldLink RX1 39 "ParcelShelves$Shop" "taken" "[I"] ++ wsX10)
def wsX1_isKeptTooLong : List Cond := .code yX1_isKeptTooLong cX1_isKeptTooLong 2 (some .boolean) :: ([.fieldLink RX1 15 "ParcelShelves$Shop" "weekdays" "[I", .fieldLink RX1 57 "ParcelShelves$Shop" "today" "I", .fieldLink RX1 24 "ParcelShelves$Shop" "cameOn" "[I", .fieldLink RX1 9 "ParcelShelves$Shop" "settings" "[I"] ++ wsX10)
def wsX1_returnParcelsKeptTooLong : List Cond := .code yX1_returnParcelsKeptTooLong cX1_returnParcelsKeptTooLong 3 (some .int) :: ([.fieldLink RX1 30 "ParcelShelves$Shop" "bins" "[I", .fieldLink RX1 18 "ParcelShelves$Shop" "senders" "[I", .methodLink RX1 109 yX1_isKeptTooLong, .instanceMethod yX1_isKeptTooLong, .selects RX1 yX1_isKeptTooLong yX1_isKeptTooLong, .initialized RX1, .code yX1_isKeptTooLong cX1_isKeptTooLong 2 (some .boolean), .fieldLink RX1 15 "ParcelShelves$Shop" "weekdays" "[I", .fieldLink RX1 57 "ParcelShelves$Shop" "today" "I", .fieldLink RX1 24 "ParcelShelves$Shop" "cameOn" "[I", .fieldLink RX1 9 "ParcelShelves$Shop" "settings" "[I", .methodLink RX1 112 yX1_leave, .instanceMethod yX1_leave, .selects RX1 yX1_leave yX1_leave, .code yX1_leave cX1_leave 2 none, .fieldLink RX1 27 "ParcelShelves$Shop" "leftOn" "[I", .static yX3_indexFor, .initialized RX3, .code yX3_indexFor cX3_indexFor 2 (some .int)] ++ wsX10)
def wsX1_beginDay_r1 : List Cond := [Cond.fieldLink RX1 57 "ParcelShelves$Shop" "today" "I", Cond.fieldLink RX1 61 "ParcelShelves$Shop" "wrongCodes" "I", Cond.methodLink RX1 99 yX1_letCourierCome, Cond.instanceMethod yX1_letCourierCome, Cond.selects RX1 yX1_letCourierCome yX1_letCourierCome, Cond.initialized RX1, Cond.code yX1_letCourierCome cX1_letCourierCome 2 none, Cond.fieldLink RX1 30 "ParcelShelves$Shop" "bins" "[I", Cond.fieldLink RX1 9 "ParcelShelves$Shop" "settings" "[I", Cond.methodLink RX1 106 yX1_emptyBin, Cond.instanceMethod yX1_emptyBin, Cond.selects RX1 yX1_emptyBin yX1_emptyBin, Cond.code yX1_emptyBin cX1_emptyBin 4 (some .int), Cond.fieldLink RX1 33 "ParcelShelves$Shop" "charged" "[I", Cond.fieldLink RX1 39 "ParcelShelves$Shop" "taken" "[I", Cond.methodLink RX1 102 yX1_returnParcelsKeptTooLong, Cond.instanceMethod yX1_returnParcelsKeptTooLong, Cond.selects RX1 yX1_returnParcelsKeptTooLong yX1_returnParcelsKeptTooLong, Cond.code yX1_returnParcelsKeptTooLong cX1_returnParcelsKeptTooLong 3 (some .int), Cond.fieldLink RX1 18 "ParcelShelves$Shop" "senders" "[I", Cond.methodLink RX1 109 yX1_isKeptTooLong, Cond.instanceMethod yX1_isKeptTooLong, Cond.selects RX1 yX1_isKeptTooLong yX1_isKeptTooLong, Cond.code yX1_isKeptTooLong cX1_isKeptTooLong 2 (some .boolean)]
def wsX1_beginDay_r2 : List Cond := [Cond.fieldLink RX1 15 "ParcelShelves$Shop" "weekdays" "[I", Cond.fieldLink RX1 24 "ParcelShelves$Shop" "cameOn" "[I", Cond.methodLink RX1 112 yX1_leave, Cond.instanceMethod yX1_leave, Cond.selects RX1 yX1_leave yX1_leave, Cond.code yX1_leave cX1_leave 2 none, Cond.fieldLink RX1 27 "ParcelShelves$Shop" "leftOn" "[I", Cond.static yX3_indexFor, Cond.initialized RX3, Cond.code yX3_indexFor cX3_indexFor 2 (some .int)]
def wsX1_beginDay : List Cond := .code yX1_beginDay cX1_beginDay 1 (some .int) :: ((wsX1_beginDay_r1 ++ wsX1_beginDay_r2) ++ wsX10)
def wsX1_parcelsOnShelf : List Cond := .code yX1_parcelsOnShelf cX1_parcelsOnShelf 4 (some .int) :: ([.methodLink RX1 88 yX1_isFree, .instanceMethod yX1_isFree, .selects RX1 yX1_isFree yX1_isFree, .initialized RX1, .code yX1_isFree cX1_isFree 2 (some .boolean), .fieldLink RX1 15 "ParcelShelves$Shop" "weekdays" "[I"] ++ wsX10)
def wsX1_parcelsOnShelves : List Cond := .code yX1_parcelsOnShelves cX1_parcelsOnShelves 3 (some .int) :: ([.methodLink RX1 116 yX1_parcelsOnShelf, .instanceMethod yX1_parcelsOnShelf, .selects RX1 yX1_parcelsOnShelf yX1_parcelsOnShelf, .initialized RX1, .code yX1_parcelsOnShelf cX1_parcelsOnShelf 4 (some .int), .methodLink RX1 88 yX1_isFree, .instanceMethod yX1_isFree, .selects RX1 yX1_isFree yX1_isFree, .code yX1_isFree cX1_isFree 2 (some .boolean), .fieldLink RX1 15 "ParcelShelves$Shop" "weekdays" "[I"] ++ wsX10)
def wsX1_restingOnShelf : List Cond := .code yX1_restingOnShelf cX1_restingOnShelf 5 (some .int) :: ([.methodLink RX1 88 yX1_isFree, .instanceMethod yX1_isFree, .selects RX1 yX1_isFree yX1_isFree, .initialized RX1, .code yX1_isFree cX1_isFree 2 (some .boolean), .fieldLink RX1 15 "ParcelShelves$Shop" "weekdays" "[I", .methodLink RX1 91 yX1_restsToday, .instanceMethod yX1_restsToday, .selects RX1 yX1_restsToday yX1_restsToday, .code yX1_restsToday cX1_restsToday 2 (some .boolean), .fieldLink RX1 57 "ParcelShelves$Shop" "today" "I", .static yX3_weekdayOf, .initialized RX3, .code yX3_weekdayOf cX3_weekdayOf 1 (some .int), .static yX3_indexFor, .code yX3_indexFor cX3_indexFor 2 (some .int), .methodLink RX1 81 yX1_rests, .instanceMethod yX1_rests, .selects RX1 yX1_rests yX1_rests, .code yX1_rests cX1_rests 2 (some .boolean), .fieldLink RX1 27 "ParcelShelves$Shop" "leftOn" "[I", .fieldLink RX1 9 "ParcelShelves$Shop" "settings" "[I"] ++ wsX10)
def wsX1_parcelsOfSender : List Cond := .code yX1_parcelsOfSender cX1_parcelsOfSender 4 (some .int) :: ([.fieldLink RX1 18 "ParcelShelves$Shop" "senders" "[I", .methodLink RX1 88 yX1_isFree, .instanceMethod yX1_isFree, .selects RX1 yX1_isFree yX1_isFree, .initialized RX1, .code yX1_isFree cX1_isFree 2 (some .boolean), .fieldLink RX1 15 "ParcelShelves$Shop" "weekdays" "[I"] ++ wsX10)
def wsX1_feesOnShelves : List Cond := .code yX1_feesOnShelves cX1_feesOnShelves 3 (some .int) :: ([.methodLink RX1 88 yX1_isFree, .instanceMethod yX1_isFree, .selects RX1 yX1_isFree yX1_isFree, .initialized RX1, .code yX1_isFree cX1_isFree 2 (some .boolean), .fieldLink RX1 15 "ParcelShelves$Shop" "weekdays" "[I", .methodLink RX1 119 yX1_feeAfter, .instanceMethod yX1_feeAfter, .selects RX1 yX1_feeAfter yX1_feeAfter, .code yX1_feeAfter cX1_feeAfter 5 (some .int), .fieldLink RX1 57 "ParcelShelves$Shop" "today" "I", .fieldLink RX1 24 "ParcelShelves$Shop" "cameOn" "[I", .fieldLink RX1 9 "ParcelShelves$Shop" "settings" "[I", .methodLink RX1 94 Lib.Math.max.name, .static Lib.Math.max.name, .initialized "java/lang/Math", .code Lib.Math.max.name Lib.Math.max.code 2 (some .int), .fieldLink RX1 21 "ParcelShelves$Shop" "sizes" "[I"] ++ wsX10)
def wsX2_init : List Cond := .code yX2_init cX2_init 1 none :: ([.methodLink RX2 5 objectInit, .instanceMethod objectInit, .code objectInit ⟨#[0xb1]⟩ 1 none, .arrayClass .char, .fieldLink RX2 11 "ParcelShelves$Text" "signs" "[C"] ++ wsX20)
def wsX2_isFull : List Cond := .code yX2_isFull cX2_isFull 1 (some .boolean) :: ([.fieldLink RX2 15 "ParcelShelves$Text" "length" "I"] ++ wsX20)
def wsX2_add : List Cond := .code yX2_add cX2_add 2 (some .int) :: ([.fieldLink RX2 15 "ParcelShelves$Text" "length" "I", .fieldLink RX2 11 "ParcelShelves$Text" "signs" "[C"] ++ wsX20)
def wsX2_empty : List Cond := .code yX2_empty cX2_empty 2 (some .int) :: ([.fieldLink RX2 15 "ParcelShelves$Text" "length" "I"] ++ wsX20)
def wsX2_signAt : List Cond := .code yX2_signAt cX2_signAt 2 (some .char) :: ([.fieldLink RX2 15 "ParcelShelves$Text" "length" "I", .fieldLink RX2 11 "ParcelShelves$Text" "signs" "[C", .static yX3_isWithin, .initialized RX3, .code yX3_isWithin cX3_isWithin 3 (some .boolean)] ++ wsX20)
def wsX2_isEndAllowed : List Cond := .code yX2_isEndAllowed cX2_isEndAllowed 1 (some .boolean) :: ([])
def wsX2_phaseAfterLetter : List Cond := .code yX2_phaseAfterLetter cX2_phaseAfterLetter 1 (some .int) :: ([])
def wsX2_isDigit : List Cond := .code yX2_isDigit cX2_isDigit 1 (some .boolean) :: ([.static yX3_isWithin, .initialized RX3, .code yX3_isWithin cX3_isWithin 3 (some .boolean)])
def wsX2_sizeOf : List Cond := .code yX2_sizeOf cX2_sizeOf 1 (some .int) :: ([])
def wsX2_phaseAfterFirstDigit : List Cond := .code yX2_phaseAfterFirstDigit cX2_phaseAfterFirstDigit 1 (some .int) :: ([.static yX3_isWithin, .initialized RX3, .code yX3_isWithin cX3_isWithin 3 (some .boolean)])
def wsX2_phaseInCode : List Cond := .code yX2_phaseInCode cX2_phaseInCode 2 (some .int) :: ([.methodLink RX2 39 yX2_isDigit, .static yX2_isDigit, .initialized RX2, .code yX2_isDigit cX2_isDigit 1 (some .boolean), .static yX3_isWithin, .initialized RX3, .code yX3_isWithin cX3_isWithin 3 (some .boolean)])
def wsX2_phaseAfter : List Cond := .code yX2_phaseAfter cX2_phaseAfter 2 (some .int) :: ([.methodLink RX2 31 yX2_isEndAllowed, .static yX2_isEndAllowed, .initialized RX2, .code yX2_isEndAllowed cX2_isEndAllowed 1 (some .boolean), .methodLink RX2 35 yX2_phaseAfterLetter, .static yX2_phaseAfterLetter, .code yX2_phaseAfterLetter cX2_phaseAfterLetter 1 (some .int), .methodLink RX2 39 yX2_isDigit, .static yX2_isDigit, .code yX2_isDigit cX2_isDigit 1 (some .boolean), .static yX3_isWithin, .initialized RX3, .code yX3_isWithin cX3_isWithin 3 (some .boolean), .methodLink RX2 43 yX2_sizeOf, .static yX2_sizeOf, .code yX2_sizeOf cX2_sizeOf 1 (some .int), .methodLink RX2 46 yX2_phaseAfterFirstDigit, .static yX2_phaseAfterFirstDigit, .code yX2_phaseAfterFirstDigit cX2_phaseAfterFirstDigit 1 (some .int), .methodLink RX2 49 yX2_phaseInCode, .static yX2_phaseInCode, .code yX2_phaseInCode cX2_phaseInCode 2 (some .int)])
def wsX2_firstError_r1 : List Cond := [Cond.fieldLink RX2 15 "ParcelShelves$Text" "length" "I", Cond.methodLink RX2 23 yX2_signAt, Cond.instanceMethod yX2_signAt, Cond.selects RX2 yX2_signAt yX2_signAt, Cond.initialized RX2, Cond.code yX2_signAt cX2_signAt 2 (some .char), Cond.fieldLink RX2 11 "ParcelShelves$Text" "signs" "[C", Cond.static yX3_isWithin, Cond.initialized RX3, Cond.code yX3_isWithin cX3_isWithin 3 (some .boolean), Cond.methodLink RX2 27 yX2_phaseAfter, Cond.static yX2_phaseAfter, Cond.code yX2_phaseAfter cX2_phaseAfter 2 (some .int), Cond.methodLink RX2 31 yX2_isEndAllowed, Cond.static yX2_isEndAllowed, Cond.code yX2_isEndAllowed cX2_isEndAllowed 1 (some .boolean), Cond.methodLink RX2 35 yX2_phaseAfterLetter, Cond.static yX2_phaseAfterLetter, Cond.code yX2_phaseAfterLetter cX2_phaseAfterLetter 1 (some .int), Cond.methodLink RX2 39 yX2_isDigit, Cond.static yX2_isDigit, Cond.code yX2_isDigit cX2_isDigit 1 (some .boolean), Cond.methodLink RX2 43 yX2_sizeOf, Cond.static yX2_sizeOf]
def wsX2_firstError_r2 : List Cond := [Cond.code yX2_sizeOf cX2_sizeOf 1 (some .int), Cond.methodLink RX2 46 yX2_phaseAfterFirstDigit, Cond.static yX2_phaseAfterFirstDigit, Cond.code yX2_phaseAfterFirstDigit cX2_phaseAfterFirstDigit 1 (some .int), Cond.methodLink RX2 49 yX2_phaseInCode, Cond.static yX2_phaseInCode, Cond.code yX2_phaseInCode cX2_phaseInCode 2 (some .int)]
def wsX2_firstError : List Cond := .code yX2_firstError cX2_firstError 3 (some .int) :: ((wsX2_firstError_r1 ++ wsX2_firstError_r2) ++ wsX20)
def wsX2_sizeAt : List Cond := .code yX2_sizeAt cX2_sizeAt 2 (some .int) :: ([.methodLink RX2 23 yX2_signAt, .instanceMethod yX2_signAt, .selects RX2 yX2_signAt yX2_signAt, .initialized RX2, .code yX2_signAt cX2_signAt 2 (some .char), .fieldLink RX2 15 "ParcelShelves$Text" "length" "I", .fieldLink RX2 11 "ParcelShelves$Text" "signs" "[C", .static yX3_isWithin, .initialized RX3, .code yX3_isWithin cX3_isWithin 3 (some .boolean), .methodLink RX2 43 yX2_sizeOf, .static yX2_sizeOf, .code yX2_sizeOf cX2_sizeOf 1 (some .int)] ++ wsX20)
def wsX2_numberAt : List Cond := .code yX2_numberAt cX2_numberAt 5 (some .int) :: ([.methodLink RX2 23 yX2_signAt, .instanceMethod yX2_signAt, .selects RX2 yX2_signAt yX2_signAt, .initialized RX2, .code yX2_signAt cX2_signAt 2 (some .char), .fieldLink RX2 15 "ParcelShelves$Text" "length" "I", .fieldLink RX2 11 "ParcelShelves$Text" "signs" "[C", .static yX3_isWithin, .initialized RX3, .code yX3_isWithin cX3_isWithin 3 (some .boolean)] ++ wsX20)
def wsX2_isStartOfCommand : List Cond := .code yX2_isStartOfCommand cX2_isStartOfCommand 2 (some .boolean) :: ([.methodLink RX2 23 yX2_signAt, .instanceMethod yX2_signAt, .selects RX2 yX2_signAt yX2_signAt, .initialized RX2, .code yX2_signAt cX2_signAt 2 (some .char), .fieldLink RX2 15 "ParcelShelves$Text" "length" "I", .fieldLink RX2 11 "ParcelShelves$Text" "signs" "[C", .static yX3_isWithin, .initialized RX3, .code yX3_isWithin cX3_isWithin 3 (some .boolean)] ++ wsX20)
def wsX2_endOfCommand : List Cond := .code yX2_endOfCommand cX2_endOfCommand 3 (some .int) :: ([.fieldLink RX2 15 "ParcelShelves$Text" "length" "I", .methodLink RX2 23 yX2_signAt, .instanceMethod yX2_signAt, .selects RX2 yX2_signAt yX2_signAt, .initialized RX2, .code yX2_signAt cX2_signAt 2 (some .char), .fieldLink RX2 11 "ParcelShelves$Text" "signs" "[C", .static yX3_isWithin, .initialized RX3, .code yX3_isWithin cX3_isWithin 3 (some .boolean)] ++ wsX20)
def wsX3_init_r1 : List Cond := [Cond.methodLink RX3 3 objectInit, Cond.instanceMethod objectInit, Cond.code objectInit ⟨#[0xb1]⟩ 1 none, Cond.classLink RX3 9 RX1, Cond.instantiable RX1 14, Cond.initialized RX1, Cond.fieldLink RX3 12 "ParcelShelves" "now" "LParcelShelves$Shop;", Cond.fieldLink RX3 16 "ParcelShelves" "saved" "LParcelShelves$Shop;", Cond.fieldLink RX3 19 "ParcelShelves" "ahead" "LParcelShelves$Shop;", Cond.classLink RX3 22 RX0, Cond.instantiable RX0 3, Cond.initialized RX0, Cond.fieldLink RX3 25 "ParcelShelves" "history" "LParcelShelves$History;", Cond.classLink RX3 29 RX2, Cond.instantiable RX2 2, Cond.initialized RX2, Cond.fieldLink RX3 32 "ParcelShelves" "text" "LParcelShelves$Text;", Cond.fieldLink RX3 36 "ParcelShelves" "isSaved" "Z", Cond.fieldLink RX3 40 "ParcelShelves" "reason" "I", Cond.fieldLink RX3 44 "ParcelShelves" "behind" "I", Cond.methodLink RX3 11 yX1_init, Cond.instanceMethod yX1_init, Cond.code yX1_init cX1_init 1 none, Cond.methodLink RX1 3 objectInit]
def wsX3_init_r2 : List Cond := [Cond.arrayClass .int, Cond.fieldLink RX1 9 "ParcelShelves$Shop" "settings" "[I", Cond.fieldLink RX1 15 "ParcelShelves$Shop" "weekdays" "[I", Cond.fieldLink RX1 18 "ParcelShelves$Shop" "senders" "[I", Cond.fieldLink RX1 21 "ParcelShelves$Shop" "sizes" "[I", Cond.fieldLink RX1 24 "ParcelShelves$Shop" "cameOn" "[I", Cond.fieldLink RX1 27 "ParcelShelves$Shop" "leftOn" "[I", Cond.fieldLink RX1 30 "ParcelShelves$Shop" "bins" "[I", Cond.fieldLink RX1 33 "ParcelShelves$Shop" "charged" "[I", Cond.fieldLink RX1 36 "ParcelShelves$Shop" "fetched" "[I", Cond.fieldLink RX1 39 "ParcelShelves$Shop" "taken" "[I", Cond.methodLink RX1 45 arraycopyName, Cond.native arraycopyName, Cond.static arraycopyName, Cond.initialized "java/lang/System", Cond.methodLink RX1 51 yJ7_fill_53178, Cond.static yJ7_fill_53178, Cond.initialized RJ7, Cond.code yJ7_fill_53178 cJ7_fill_53178 4 none, Cond.methodLink RX3 24 yX0_init, Cond.instanceMethod yX0_init, Cond.code yX0_init cX0_init 2 none, Cond.methodLink RX0 3 objectInit, Cond.classLink RX0 9 RX1]
def wsX3_init_r3 : List Cond := [Cond.fieldLink RX0 11 "ParcelShelves$History" "rows" "[LParcelShelves$Shop;", Cond.methodLink RX0 15 yX1_init, Cond.instanceMethod yX2_init, Cond.code yX2_init cX2_init 1 none, Cond.methodLink RX2 5 objectInit, Cond.arrayClass .char, Cond.fieldLink RX2 11 "ParcelShelves$Text" "signs" "[C"]
def wsX3_init : List Cond := .code yX3_init cX3_init 1 none :: ((wsX3_init_r1 ++ (wsX3_init_r2 ++ wsX3_init_r3)) ++ wsX10 ++ wsX30 ++ wsX00 ++ wsX20)
def wsX3_changeSetting : List Cond := .code yX3_changeSetting cX3_changeSetting 4 (some .int) :: ([.fieldLink RX3 221 "ParcelShelves" "LOWEST" "[I", .fieldLink RX3 224 "ParcelShelves" "HIGHEST" "[I", .fieldLink RX3 12 "ParcelShelves" "now" "LParcelShelves$Shop;", .fieldLink RX3 63 "ParcelShelves$Shop" "settings" "[I", .methodLink RX3 59 yX3_isWithin, .static yX3_isWithin, .initialized RX3, .code yX3_isWithin cX3_isWithin 3 (some .boolean)] ++ wsX30 ++ wsX10)
def wsX3_isError : List Cond := .code yX3_isError cX3_isError 1 (some .boolean) :: ([.methodLink RX3 59 yX3_isWithin, .static yX3_isWithin, .initialized RX3, .code yX3_isWithin cX3_isWithin 3 (some .boolean)])
def wsX3_recorded : List Cond := .code yX3_recorded cX3_recorded 2 (some .int) :: ([.fieldLink RX3 25 "ParcelShelves" "history" "LParcelShelves$History;", .methodLink RX3 211 yX3_isError, .static yX3_isError, .initialized RX3, .code yX3_isError cX3_isError 1 (some .boolean), .methodLink RX3 59 yX3_isWithin, .static yX3_isWithin, .code yX3_isWithin cX3_isWithin 3 (some .boolean), .methodLink RX3 261 yX0_keepPrepared, .instanceMethod yX0_keepPrepared, .selects RX0 yX0_keepPrepared yX0_keepPrepared, .initialized RX0, .code yX0_keepPrepared cX0_keepPrepared 1 none, .fieldLink RX0 20 "ParcelShelves$History" "count" "I", .fieldLink RX0 16 "ParcelShelves$History" "oldest" "I"] ++ wsX30 ++ wsX00)
def wsX3_set_r1 : List Cond := [Cond.fieldLink RX3 25 "ParcelShelves" "history" "LParcelShelves$History;", Cond.fieldLink RX3 12 "ParcelShelves" "now" "LParcelShelves$Shop;", Cond.methodLink RX3 47 yX0_prepare, Cond.instanceMethod yX0_prepare, Cond.selects RX0 yX0_prepare yX0_prepare, Cond.initialized RX0, Cond.code yX0_prepare cX0_prepare 2 none, Cond.fieldLink RX0 11 "ParcelShelves$History" "rows" "[LParcelShelves$Shop;", Cond.fieldLink RX0 16 "ParcelShelves$History" "oldest" "I", Cond.fieldLink RX0 20 "ParcelShelves$History" "count" "I", Cond.methodLink RX0 23 yX1_copyFrom, Cond.instanceMethod yX1_copyFrom, Cond.selects RX1 yX1_copyFrom yX1_copyFrom, Cond.initialized RX1, Cond.code yX1_copyFrom cX1_copyFrom 2 none, Cond.fieldLink RX1 57 "ParcelShelves$Shop" "today" "I", Cond.fieldLink RX1 61 "ParcelShelves$Shop" "wrongCodes" "I", Cond.fieldLink RX1 64 "ParcelShelves$Shop" "cameSoFar" "I", Cond.fieldLink RX1 67 "ParcelShelves$Shop" "feesPaid" "I", Cond.fieldLink RX1 9 "ParcelShelves$Shop" "settings" "[I", Cond.methodLink RX1 45 arraycopyName, Cond.native arraycopyName, Cond.static arraycopyName, Cond.initialized "java/lang/System"]
def wsX3_set_r2 : List Cond := [Cond.fieldLink RX1 15 "ParcelShelves$Shop" "weekdays" "[I", Cond.fieldLink RX1 18 "ParcelShelves$Shop" "senders" "[I", Cond.fieldLink RX1 21 "ParcelShelves$Shop" "sizes" "[I", Cond.fieldLink RX1 24 "ParcelShelves$Shop" "cameOn" "[I", Cond.fieldLink RX1 27 "ParcelShelves$Shop" "leftOn" "[I", Cond.fieldLink RX1 30 "ParcelShelves$Shop" "bins" "[I", Cond.fieldLink RX1 33 "ParcelShelves$Shop" "charged" "[I", Cond.fieldLink RX1 36 "ParcelShelves$Shop" "fetched" "[I", Cond.fieldLink RX1 39 "ParcelShelves$Shop" "taken" "[I", Cond.methodLink RX3 51 yX3_changeSetting, Cond.instanceMethod yX3_changeSetting, Cond.selects RX3 yX3_changeSetting yX3_changeSetting, Cond.initialized RX3, Cond.code yX3_changeSetting cX3_changeSetting 4 (some .int), Cond.fieldLink RX3 221 "ParcelShelves" "LOWEST" "[I", Cond.fieldLink RX3 224 "ParcelShelves" "HIGHEST" "[I", Cond.fieldLink RX3 63 "ParcelShelves$Shop" "settings" "[I", Cond.methodLink RX3 59 yX3_isWithin, Cond.static yX3_isWithin, Cond.code yX3_isWithin cX3_isWithin 3 (some .boolean), Cond.methodLink RX3 55 yX3_recorded, Cond.instanceMethod yX3_recorded, Cond.selects RX3 yX3_recorded yX3_recorded, Cond.code yX3_recorded cX3_recorded 2 (some .int)]
def wsX3_set_r3 : List Cond := [Cond.methodLink RX3 211 yX3_isError, Cond.static yX3_isError, Cond.code yX3_isError cX3_isError 1 (some .boolean), Cond.methodLink RX3 261 yX0_keepPrepared, Cond.instanceMethod yX0_keepPrepared, Cond.selects RX0 yX0_keepPrepared yX0_keepPrepared, Cond.code yX0_keepPrepared cX0_keepPrepared 1 none]
def wsX3_set : List Cond := .code yX3_set cX3_set 3 (some .int) :: ((wsX3_set_r1 ++ (wsX3_set_r2 ++ wsX3_set_r3)) ++ wsX30 ++ wsX00 ++ wsX10)
def wsX3_setting : List Cond := .code yX3_setting cX3_setting 2 (some .int) :: ([.fieldLink RX3 12 "ParcelShelves" "now" "LParcelShelves$Shop;", .fieldLink RX3 63 "ParcelShelves$Shop" "settings" "[I", .methodLink RX3 59 yX3_isWithin, .static yX3_isWithin, .initialized RX3, .code yX3_isWithin cX3_isWithin 3 (some .boolean)] ++ wsX30 ++ wsX10)
def wsX3_firstShelfFor : List Cond := .code yX3_firstShelfFor cX3_firstShelfFor 1 (some .int) :: ([])
def wsX3_refuseFor : List Cond := .code yX3_refuseFor cX3_refuseFor 3 none :: ([.fieldLink RX3 40 "ParcelShelves" "reason" "I", .fieldLink RX3 44 "ParcelShelves" "behind" "I"] ++ wsX30)
def wsX3_refuseForNoPlace : List Cond := .code yX3_refuseForNoPlace cX3_refuseForNoPlace 4 none :: ([.fieldLink RX3 12 "ParcelShelves" "now" "LParcelShelves$Shop;", .methodLink RX3 264 yX1_hasFreePlace, .instanceMethod yX1_hasFreePlace, .selects RX1 yX1_hasFreePlace yX1_hasFreePlace, .initialized RX1, .code yX1_hasFreePlace cX1_hasFreePlace 5 (some .boolean), .methodLink RX1 88 yX1_isFree, .instanceMethod yX1_isFree, .selects RX1 yX1_isFree yX1_isFree, .code yX1_isFree cX1_isFree 2 (some .boolean), .fieldLink RX1 15 "ParcelShelves$Shop" "weekdays" "[I", .methodLink RX3 235 yX3_refuseFor, .instanceMethod yX3_refuseFor, .selects RX3 yX3_refuseFor yX3_refuseFor, .initialized RX3, .code yX3_refuseFor cX3_refuseFor 3 none, .fieldLink RX3 40 "ParcelShelves" "reason" "I", .fieldLink RX3 44 "ParcelShelves" "behind" "I"] ++ wsX30 ++ wsX10)
def wsX3_letCome_r1 : List Cond := [Cond.fieldLink RX3 12 "ParcelShelves" "now" "LParcelShelves$Shop;", Cond.fieldLink RX3 85 "ParcelShelves$Shop" "today" "I", Cond.fieldLink RX3 146 "ParcelShelves$Shop" "cameSoFar" "I", Cond.methodLink RX3 59 yX3_isWithin, Cond.static yX3_isWithin, Cond.initialized RX3, Cond.code yX3_isWithin cX3_isWithin 3 (some .boolean), Cond.methodLink RX3 177 yX3_firstShelfFor, Cond.static yX3_firstShelfFor, Cond.code yX3_firstShelfFor cX3_firstShelfFor 1 (some .int), Cond.methodLink RX3 180 yX1_placeToGive, Cond.instanceMethod yX1_placeToGive, Cond.selects RX1 yX1_placeToGive yX1_placeToGive, Cond.initialized RX1, Cond.code yX1_placeToGive cX1_placeToGive 5 (some .int), Cond.methodLink RX1 88 yX1_isFree, Cond.instanceMethod yX1_isFree, Cond.selects RX1 yX1_isFree yX1_isFree, Cond.code yX1_isFree cX1_isFree 2 (some .boolean), Cond.fieldLink RX1 15 "ParcelShelves$Shop" "weekdays" "[I", Cond.methodLink RX1 91 yX1_restsToday, Cond.instanceMethod yX1_restsToday, Cond.selects RX1 yX1_restsToday yX1_restsToday, Cond.code yX1_restsToday cX1_restsToday 2 (some .boolean)]
def wsX3_letCome_r2 : List Cond := [Cond.fieldLink RX1 57 "ParcelShelves$Shop" "today" "I", Cond.static yX3_weekdayOf, Cond.code yX3_weekdayOf cX3_weekdayOf 1 (some .int), Cond.static yX3_indexFor, Cond.code yX3_indexFor cX3_indexFor 2 (some .int), Cond.methodLink RX1 81 yX1_rests, Cond.instanceMethod yX1_rests, Cond.selects RX1 yX1_rests yX1_rests, Cond.code yX1_rests cX1_rests 2 (some .boolean), Cond.fieldLink RX1 27 "ParcelShelves$Shop" "leftOn" "[I", Cond.fieldLink RX1 9 "ParcelShelves$Shop" "settings" "[I", Cond.methodLink RX3 227 yX3_refuseForNoPlace, Cond.instanceMethod yX3_refuseForNoPlace, Cond.selects RX3 yX3_refuseForNoPlace yX3_refuseForNoPlace, Cond.code yX3_refuseForNoPlace cX3_refuseForNoPlace 4 none, Cond.methodLink RX3 264 yX1_hasFreePlace, Cond.instanceMethod yX1_hasFreePlace, Cond.selects RX1 yX1_hasFreePlace yX1_hasFreePlace, Cond.code yX1_hasFreePlace cX1_hasFreePlace 5 (some .boolean), Cond.methodLink RX3 235 yX3_refuseFor, Cond.instanceMethod yX3_refuseFor, Cond.selects RX3 yX3_refuseFor yX3_refuseFor, Cond.code yX3_refuseFor cX3_refuseFor 3 none, Cond.fieldLink RX3 40 "ParcelShelves" "reason" "I"]
def wsX3_letCome_r3 : List Cond := [Cond.fieldLink RX3 44 "ParcelShelves" "behind" "I", Cond.methodLink RX3 231 yX1_put, Cond.instanceMethod yX1_put, Cond.selects RX1 yX1_put yX1_put, Cond.code yX1_put cX1_put 5 none, Cond.fieldLink RX1 18 "ParcelShelves$Shop" "senders" "[I", Cond.fieldLink RX1 21 "ParcelShelves$Shop" "sizes" "[I", Cond.fieldLink RX1 24 "ParcelShelves$Shop" "cameOn" "[I", Cond.methodLink RX3 111 yX1_codeOn, Cond.instanceMethod yX1_codeOn, Cond.selects RX1 yX1_codeOn yX1_codeOn, Cond.code yX1_codeOn cX1_codeOn 2 (some .int), Cond.static yX3_codeFor, Cond.code yX3_codeFor cX3_codeFor 4 (some .int), Cond.methodLink RX3 267 yX3_checkDigit, Cond.static yX3_checkDigit, Cond.code yX3_checkDigit cX3_checkDigit 3 (some .int)]
def wsX3_letCome : List Cond := .code yX3_letCome cX3_letCome 4 (some .int) :: ((wsX3_letCome_r1 ++ (wsX3_letCome_r2 ++ wsX3_letCome_r3)) ++ wsX30 ++ wsX10)
def wsX3_come_r1 : List Cond := [Cond.fieldLink RX3 25 "ParcelShelves" "history" "LParcelShelves$History;", Cond.fieldLink RX3 12 "ParcelShelves" "now" "LParcelShelves$Shop;", Cond.methodLink RX3 47 yX0_prepare, Cond.instanceMethod yX0_prepare, Cond.selects RX0 yX0_prepare yX0_prepare, Cond.initialized RX0, Cond.code yX0_prepare cX0_prepare 2 none, Cond.fieldLink RX0 11 "ParcelShelves$History" "rows" "[LParcelShelves$Shop;", Cond.fieldLink RX0 16 "ParcelShelves$History" "oldest" "I", Cond.fieldLink RX0 20 "ParcelShelves$History" "count" "I", Cond.methodLink RX0 23 yX1_copyFrom, Cond.instanceMethod yX1_copyFrom, Cond.selects RX1 yX1_copyFrom yX1_copyFrom, Cond.initialized RX1, Cond.code yX1_copyFrom cX1_copyFrom 2 none, Cond.fieldLink RX1 57 "ParcelShelves$Shop" "today" "I", Cond.fieldLink RX1 61 "ParcelShelves$Shop" "wrongCodes" "I", Cond.fieldLink RX1 64 "ParcelShelves$Shop" "cameSoFar" "I", Cond.fieldLink RX1 67 "ParcelShelves$Shop" "feesPaid" "I", Cond.fieldLink RX1 9 "ParcelShelves$Shop" "settings" "[I", Cond.methodLink RX1 45 arraycopyName, Cond.native arraycopyName, Cond.static arraycopyName, Cond.initialized "java/lang/System"]
def wsX3_come_r2 : List Cond := [Cond.fieldLink RX1 15 "ParcelShelves$Shop" "weekdays" "[I", Cond.fieldLink RX1 18 "ParcelShelves$Shop" "senders" "[I", Cond.fieldLink RX1 21 "ParcelShelves$Shop" "sizes" "[I", Cond.fieldLink RX1 24 "ParcelShelves$Shop" "cameOn" "[I", Cond.fieldLink RX1 27 "ParcelShelves$Shop" "leftOn" "[I", Cond.fieldLink RX1 30 "ParcelShelves$Shop" "bins" "[I", Cond.fieldLink RX1 33 "ParcelShelves$Shop" "charged" "[I", Cond.fieldLink RX1 36 "ParcelShelves$Shop" "fetched" "[I", Cond.fieldLink RX1 39 "ParcelShelves$Shop" "taken" "[I", Cond.methodLink RX3 67 yX3_letCome, Cond.instanceMethod yX3_letCome, Cond.selects RX3 yX3_letCome yX3_letCome, Cond.initialized RX3, Cond.code yX3_letCome cX3_letCome 4 (some .int), Cond.fieldLink RX3 85 "ParcelShelves$Shop" "today" "I", Cond.fieldLink RX3 146 "ParcelShelves$Shop" "cameSoFar" "I", Cond.methodLink RX3 59 yX3_isWithin, Cond.static yX3_isWithin, Cond.code yX3_isWithin cX3_isWithin 3 (some .boolean), Cond.methodLink RX3 177 yX3_firstShelfFor, Cond.static yX3_firstShelfFor, Cond.code yX3_firstShelfFor cX3_firstShelfFor 1 (some .int), Cond.methodLink RX3 180 yX1_placeToGive, Cond.instanceMethod yX1_placeToGive]
def wsX3_come_r3 : List Cond := [Cond.selects RX1 yX1_placeToGive yX1_placeToGive, Cond.code yX1_placeToGive cX1_placeToGive 5 (some .int), Cond.methodLink RX1 88 yX1_isFree, Cond.instanceMethod yX1_isFree, Cond.selects RX1 yX1_isFree yX1_isFree, Cond.code yX1_isFree cX1_isFree 2 (some .boolean), Cond.methodLink RX1 91 yX1_restsToday, Cond.instanceMethod yX1_restsToday, Cond.selects RX1 yX1_restsToday yX1_restsToday, Cond.code yX1_restsToday cX1_restsToday 2 (some .boolean), Cond.static yX3_weekdayOf, Cond.code yX3_weekdayOf cX3_weekdayOf 1 (some .int), Cond.static yX3_indexFor, Cond.code yX3_indexFor cX3_indexFor 2 (some .int), Cond.methodLink RX1 81 yX1_rests, Cond.instanceMethod yX1_rests, Cond.selects RX1 yX1_rests yX1_rests, Cond.code yX1_rests cX1_rests 2 (some .boolean), Cond.methodLink RX3 227 yX3_refuseForNoPlace, Cond.instanceMethod yX3_refuseForNoPlace, Cond.selects RX3 yX3_refuseForNoPlace yX3_refuseForNoPlace, Cond.code yX3_refuseForNoPlace cX3_refuseForNoPlace 4 none, Cond.methodLink RX3 264 yX1_hasFreePlace, Cond.instanceMethod yX1_hasFreePlace]
def wsX3_come_r4 : List Cond := [Cond.selects RX1 yX1_hasFreePlace yX1_hasFreePlace, Cond.code yX1_hasFreePlace cX1_hasFreePlace 5 (some .boolean), Cond.methodLink RX3 235 yX3_refuseFor, Cond.instanceMethod yX3_refuseFor, Cond.selects RX3 yX3_refuseFor yX3_refuseFor, Cond.code yX3_refuseFor cX3_refuseFor 3 none, Cond.fieldLink RX3 40 "ParcelShelves" "reason" "I", Cond.fieldLink RX3 44 "ParcelShelves" "behind" "I", Cond.methodLink RX3 231 yX1_put, Cond.instanceMethod yX1_put, Cond.selects RX1 yX1_put yX1_put, Cond.code yX1_put cX1_put 5 none, Cond.methodLink RX3 111 yX1_codeOn, Cond.instanceMethod yX1_codeOn, Cond.selects RX1 yX1_codeOn yX1_codeOn, Cond.code yX1_codeOn cX1_codeOn 2 (some .int), Cond.static yX3_codeFor, Cond.code yX3_codeFor cX3_codeFor 4 (some .int), Cond.methodLink RX3 267 yX3_checkDigit, Cond.static yX3_checkDigit, Cond.code yX3_checkDigit cX3_checkDigit 3 (some .int), Cond.methodLink RX3 55 yX3_recorded, Cond.instanceMethod yX3_recorded, Cond.selects RX3 yX3_recorded yX3_recorded]
def wsX3_come_r5 : List Cond := [Cond.code yX3_recorded cX3_recorded 2 (some .int), Cond.methodLink RX3 211 yX3_isError, Cond.static yX3_isError, Cond.code yX3_isError cX3_isError 1 (some .boolean), Cond.methodLink RX3 261 yX0_keepPrepared, Cond.instanceMethod yX0_keepPrepared, Cond.selects RX0 yX0_keepPrepared yX0_keepPrepared, Cond.code yX0_keepPrepared cX0_keepPrepared 1 none]
def wsX3_come : List Cond := .code yX3_come cX3_come 3 (some .int) :: ((wsX3_come_r1 ++ (wsX3_come_r2 ++ (wsX3_come_r3 ++ (wsX3_come_r4 ++ wsX3_come_r5)))) ++ wsX30 ++ wsX00 ++ wsX10)
def wsX3_letFetch_r1 : List Cond := [Cond.fieldLink RX3 12 "ParcelShelves" "now" "LParcelShelves$Shop;", Cond.fieldLink RX3 152 "ParcelShelves$Shop" "wrongCodes" "I", Cond.fieldLink RX3 149 "ParcelShelves$Shop" "feesPaid" "I", Cond.fieldLink RX3 132 "ParcelShelves$Shop" "fetched" "[I", Cond.fieldLink RX3 91 "ParcelShelves$Shop" "senders" "[I", Cond.methodLink RX3 59 yX3_isWithin, Cond.static yX3_isWithin, Cond.initialized RX3, Cond.code yX3_isWithin cX3_isWithin 3 (some .boolean), Cond.methodLink RX3 155 yX1_isLocked, Cond.instanceMethod yX1_isLocked, Cond.selects RX1 yX1_isLocked yX1_isLocked, Cond.initialized RX1, Cond.code yX1_isLocked cX1_isLocked 1 (some .boolean), Cond.fieldLink RX1 61 "ParcelShelves$Shop" "wrongCodes" "I", Cond.methodLink RX3 235 yX3_refuseFor, Cond.instanceMethod yX3_refuseFor, Cond.selects RX3 yX3_refuseFor yX3_refuseFor, Cond.code yX3_refuseFor cX3_refuseFor 3 none, Cond.fieldLink RX3 40 "ParcelShelves" "reason" "I", Cond.fieldLink RX3 44 "ParcelShelves" "behind" "I", Cond.methodLink RX3 88 yX1_placeWith, Cond.instanceMethod yX1_placeWith, Cond.selects RX1 yX1_placeWith yX1_placeWith]
def wsX3_letFetch_r2 : List Cond := [Cond.code yX1_placeWith cX1_placeWith 4 (some .int), Cond.fieldLink RX1 15 "ParcelShelves$Shop" "weekdays" "[I", Cond.static yX3_indexOfCode, Cond.code yX3_indexOfCode cX3_indexOfCode 4 (some .int), Cond.methodLink RX3 103 yX3_isPlace, Cond.static yX3_isPlace, Cond.code yX3_isPlace cX3_isPlace 2 (some .boolean), Cond.methodLink RX3 267 yX3_checkDigit, Cond.static yX3_checkDigit, Cond.code yX3_checkDigit cX3_checkDigit 3 (some .int), Cond.methodLink RX3 271 yX3_indexFor, Cond.static yX3_indexFor, Cond.code yX3_indexFor cX3_indexFor 2 (some .int), Cond.methodLink RX3 100 yX1_feeAfter, Cond.instanceMethod yX1_feeAfter, Cond.selects RX1 yX1_feeAfter yX1_feeAfter, Cond.code yX1_feeAfter cX1_feeAfter 5 (some .int), Cond.fieldLink RX1 57 "ParcelShelves$Shop" "today" "I", Cond.fieldLink RX1 24 "ParcelShelves$Shop" "cameOn" "[I", Cond.fieldLink RX1 9 "ParcelShelves$Shop" "settings" "[I", Cond.methodLink RX1 94 Lib.Math.max.name, Cond.static Lib.Math.max.name, Cond.initialized "java/lang/Math", Cond.code Lib.Math.max.name Lib.Math.max.code 2 (some .int)]
def wsX3_letFetch_r3 : List Cond := [Cond.fieldLink RX1 21 "ParcelShelves$Shop" "sizes" "[I", Cond.methodLink RX3 238 yX1_leave, Cond.instanceMethod yX1_leave, Cond.selects RX1 yX1_leave yX1_leave, Cond.code yX1_leave cX1_leave 2 none, Cond.fieldLink RX1 27 "ParcelShelves$Shop" "leftOn" "[I"]
def wsX3_letFetch : List Cond := .code yX3_letFetch cX3_letFetch 4 (some .int) :: ((wsX3_letFetch_r1 ++ (wsX3_letFetch_r2 ++ wsX3_letFetch_r3)) ++ wsX30 ++ wsX10)
def wsX3_fetch_r1 : List Cond := [Cond.fieldLink RX3 25 "ParcelShelves" "history" "LParcelShelves$History;", Cond.fieldLink RX3 12 "ParcelShelves" "now" "LParcelShelves$Shop;", Cond.methodLink RX3 47 yX0_prepare, Cond.instanceMethod yX0_prepare, Cond.selects RX0 yX0_prepare yX0_prepare, Cond.initialized RX0, Cond.code yX0_prepare cX0_prepare 2 none, Cond.fieldLink RX0 11 "ParcelShelves$History" "rows" "[LParcelShelves$Shop;", Cond.fieldLink RX0 16 "ParcelShelves$History" "oldest" "I", Cond.fieldLink RX0 20 "ParcelShelves$History" "count" "I", Cond.methodLink RX0 23 yX1_copyFrom, Cond.instanceMethod yX1_copyFrom, Cond.selects RX1 yX1_copyFrom yX1_copyFrom, Cond.initialized RX1, Cond.code yX1_copyFrom cX1_copyFrom 2 none, Cond.fieldLink RX1 57 "ParcelShelves$Shop" "today" "I", Cond.fieldLink RX1 61 "ParcelShelves$Shop" "wrongCodes" "I", Cond.fieldLink RX1 64 "ParcelShelves$Shop" "cameSoFar" "I", Cond.fieldLink RX1 67 "ParcelShelves$Shop" "feesPaid" "I", Cond.fieldLink RX1 9 "ParcelShelves$Shop" "settings" "[I", Cond.methodLink RX1 45 arraycopyName, Cond.native arraycopyName, Cond.static arraycopyName, Cond.initialized "java/lang/System"]
def wsX3_fetch_r2 : List Cond := [Cond.fieldLink RX1 15 "ParcelShelves$Shop" "weekdays" "[I", Cond.fieldLink RX1 18 "ParcelShelves$Shop" "senders" "[I", Cond.fieldLink RX1 21 "ParcelShelves$Shop" "sizes" "[I", Cond.fieldLink RX1 24 "ParcelShelves$Shop" "cameOn" "[I", Cond.fieldLink RX1 27 "ParcelShelves$Shop" "leftOn" "[I", Cond.fieldLink RX1 30 "ParcelShelves$Shop" "bins" "[I", Cond.fieldLink RX1 33 "ParcelShelves$Shop" "charged" "[I", Cond.fieldLink RX1 36 "ParcelShelves$Shop" "fetched" "[I", Cond.fieldLink RX1 39 "ParcelShelves$Shop" "taken" "[I", Cond.methodLink RX3 70 yX3_letFetch, Cond.instanceMethod yX3_letFetch, Cond.selects RX3 yX3_letFetch yX3_letFetch, Cond.initialized RX3, Cond.code yX3_letFetch cX3_letFetch 4 (some .int), Cond.fieldLink RX3 152 "ParcelShelves$Shop" "wrongCodes" "I", Cond.fieldLink RX3 149 "ParcelShelves$Shop" "feesPaid" "I", Cond.fieldLink RX3 132 "ParcelShelves$Shop" "fetched" "[I", Cond.fieldLink RX3 91 "ParcelShelves$Shop" "senders" "[I", Cond.methodLink RX3 59 yX3_isWithin, Cond.static yX3_isWithin, Cond.code yX3_isWithin cX3_isWithin 3 (some .boolean), Cond.methodLink RX3 155 yX1_isLocked, Cond.instanceMethod yX1_isLocked, Cond.selects RX1 yX1_isLocked yX1_isLocked]
def wsX3_fetch_r3 : List Cond := [Cond.code yX1_isLocked cX1_isLocked 1 (some .boolean), Cond.methodLink RX3 235 yX3_refuseFor, Cond.instanceMethod yX3_refuseFor, Cond.selects RX3 yX3_refuseFor yX3_refuseFor, Cond.code yX3_refuseFor cX3_refuseFor 3 none, Cond.fieldLink RX3 40 "ParcelShelves" "reason" "I", Cond.fieldLink RX3 44 "ParcelShelves" "behind" "I", Cond.methodLink RX3 88 yX1_placeWith, Cond.instanceMethod yX1_placeWith, Cond.selects RX1 yX1_placeWith yX1_placeWith, Cond.code yX1_placeWith cX1_placeWith 4 (some .int), Cond.static yX3_indexOfCode, Cond.code yX3_indexOfCode cX3_indexOfCode 4 (some .int), Cond.methodLink RX3 103 yX3_isPlace, Cond.static yX3_isPlace, Cond.code yX3_isPlace cX3_isPlace 2 (some .boolean), Cond.methodLink RX3 267 yX3_checkDigit, Cond.static yX3_checkDigit, Cond.code yX3_checkDigit cX3_checkDigit 3 (some .int), Cond.methodLink RX3 271 yX3_indexFor, Cond.static yX3_indexFor, Cond.code yX3_indexFor cX3_indexFor 2 (some .int), Cond.methodLink RX3 100 yX1_feeAfter, Cond.instanceMethod yX1_feeAfter]
def wsX3_fetch_r4 : List Cond := [Cond.selects RX1 yX1_feeAfter yX1_feeAfter, Cond.code yX1_feeAfter cX1_feeAfter 5 (some .int), Cond.methodLink RX1 94 Lib.Math.max.name, Cond.static Lib.Math.max.name, Cond.initialized "java/lang/Math", Cond.code Lib.Math.max.name Lib.Math.max.code 2 (some .int), Cond.methodLink RX3 238 yX1_leave, Cond.instanceMethod yX1_leave, Cond.selects RX1 yX1_leave yX1_leave, Cond.code yX1_leave cX1_leave 2 none, Cond.methodLink RX3 55 yX3_recorded, Cond.instanceMethod yX3_recorded, Cond.selects RX3 yX3_recorded yX3_recorded, Cond.code yX3_recorded cX3_recorded 2 (some .int), Cond.methodLink RX3 211 yX3_isError, Cond.static yX3_isError, Cond.code yX3_isError cX3_isError 1 (some .boolean), Cond.methodLink RX3 261 yX0_keepPrepared, Cond.instanceMethod yX0_keepPrepared, Cond.selects RX0 yX0_keepPrepared yX0_keepPrepared, Cond.code yX0_keepPrepared cX0_keepPrepared 1 none]
def wsX3_fetch : List Cond := .code yX3_fetch cX3_fetch 2 (some .int) :: ((wsX3_fetch_r1 ++ (wsX3_fetch_r2 ++ (wsX3_fetch_r3 ++ wsX3_fetch_r4))) ++ wsX30 ++ wsX00 ++ wsX10)
def wsX3_refuseForNoParcel_r1 : List Cond := [Cond.fieldLink RX3 12 "ParcelShelves" "now" "LParcelShelves$Shop;", Cond.methodLink RX3 162 yX3_indexOfCode, Cond.static yX3_indexOfCode, Cond.initialized RX3, Cond.code yX3_indexOfCode cX3_indexOfCode 4 (some .int), Cond.methodLink RX3 59 yX3_isWithin, Cond.static yX3_isWithin, Cond.code yX3_isWithin cX3_isWithin 3 (some .boolean), Cond.methodLink RX3 103 yX3_isPlace, Cond.static yX3_isPlace, Cond.code yX3_isPlace cX3_isPlace 2 (some .boolean), Cond.methodLink RX3 267 yX3_checkDigit, Cond.static yX3_checkDigit, Cond.code yX3_checkDigit cX3_checkDigit 3 (some .int), Cond.methodLink RX3 271 yX3_indexFor, Cond.static yX3_indexFor, Cond.code yX3_indexFor cX3_indexFor 2 (some .int), Cond.methodLink RX3 171 yX1_rests, Cond.instanceMethod yX1_rests, Cond.selects RX1 yX1_rests yX1_rests, Cond.initialized RX1, Cond.code yX1_rests cX1_rests 2 (some .boolean), Cond.fieldLink RX1 27 "ParcelShelves$Shop" "leftOn" "[I", Cond.fieldLink RX1 57 "ParcelShelves$Shop" "today" "I"]
def wsX3_refuseForNoParcel_r2 : List Cond := [Cond.fieldLink RX1 9 "ParcelShelves$Shop" "settings" "[I", Cond.methodLink RX3 235 yX3_refuseFor, Cond.instanceMethod yX3_refuseFor, Cond.selects RX3 yX3_refuseFor yX3_refuseFor, Cond.code yX3_refuseFor cX3_refuseFor 3 none, Cond.fieldLink RX3 40 "ParcelShelves" "reason" "I", Cond.fieldLink RX3 44 "ParcelShelves" "behind" "I"]
def wsX3_refuseForNoParcel : List Cond := .code yX3_refuseForNoParcel cX3_refuseForNoParcel 4 none :: ((wsX3_refuseForNoParcel_r1 ++ wsX3_refuseForNoParcel_r2) ++ wsX30 ++ wsX10)
def wsX3_letRefuse_r1 : List Cond := [Cond.fieldLink RX3 12 "ParcelShelves" "now" "LParcelShelves$Shop;", Cond.fieldLink RX3 91 "ParcelShelves$Shop" "senders" "[I", Cond.fieldLink RX3 126 "ParcelShelves$Shop" "bins" "[I", Cond.methodLink RX3 88 yX1_placeWith, Cond.instanceMethod yX1_placeWith, Cond.selects RX1 yX1_placeWith yX1_placeWith, Cond.initialized RX1, Cond.code yX1_placeWith cX1_placeWith 4 (some .int), Cond.fieldLink RX1 15 "ParcelShelves$Shop" "weekdays" "[I", Cond.static yX3_indexOfCode, Cond.initialized RX3, Cond.code yX3_indexOfCode cX3_indexOfCode 4 (some .int), Cond.methodLink RX3 59 yX3_isWithin, Cond.static yX3_isWithin, Cond.code yX3_isWithin cX3_isWithin 3 (some .boolean), Cond.methodLink RX3 103 yX3_isPlace, Cond.static yX3_isPlace, Cond.code yX3_isPlace cX3_isPlace 2 (some .boolean), Cond.methodLink RX3 267 yX3_checkDigit, Cond.static yX3_checkDigit, Cond.code yX3_checkDigit cX3_checkDigit 3 (some .int), Cond.methodLink RX3 271 yX3_indexFor, Cond.static yX3_indexFor, Cond.code yX3_indexFor cX3_indexFor 2 (some .int)]
def wsX3_letRefuse_r2 : List Cond := [Cond.methodLink RX3 242 yX3_refuseForNoParcel, Cond.instanceMethod yX3_refuseForNoParcel, Cond.selects RX3 yX3_refuseForNoParcel yX3_refuseForNoParcel, Cond.code yX3_refuseForNoParcel cX3_refuseForNoParcel 4 none, Cond.methodLink RX3 162 yX3_indexOfCode, Cond.methodLink RX3 171 yX1_rests, Cond.instanceMethod yX1_rests, Cond.selects RX1 yX1_rests yX1_rests, Cond.code yX1_rests cX1_rests 2 (some .boolean), Cond.fieldLink RX1 27 "ParcelShelves$Shop" "leftOn" "[I", Cond.fieldLink RX1 57 "ParcelShelves$Shop" "today" "I", Cond.fieldLink RX1 9 "ParcelShelves$Shop" "settings" "[I", Cond.methodLink RX3 235 yX3_refuseFor, Cond.instanceMethod yX3_refuseFor, Cond.selects RX3 yX3_refuseFor yX3_refuseFor, Cond.code yX3_refuseFor cX3_refuseFor 3 none, Cond.fieldLink RX3 40 "ParcelShelves" "reason" "I", Cond.fieldLink RX3 44 "ParcelShelves" "behind" "I", Cond.methodLink RX3 238 yX1_leave, Cond.instanceMethod yX1_leave, Cond.selects RX1 yX1_leave yX1_leave, Cond.code yX1_leave cX1_leave 2 none]
def wsX3_letRefuse : List Cond := .code yX3_letRefuse cX3_letRefuse 4 (some .int) :: ((wsX3_letRefuse_r1 ++ wsX3_letRefuse_r2) ++ wsX30 ++ wsX10)
def wsX3_refuse_r1 : List Cond := [Cond.fieldLink RX3 25 "ParcelShelves" "history" "LParcelShelves$History;", Cond.fieldLink RX3 12 "ParcelShelves" "now" "LParcelShelves$Shop;", Cond.methodLink RX3 47 yX0_prepare, Cond.instanceMethod yX0_prepare, Cond.selects RX0 yX0_prepare yX0_prepare, Cond.initialized RX0, Cond.code yX0_prepare cX0_prepare 2 none, Cond.fieldLink RX0 11 "ParcelShelves$History" "rows" "[LParcelShelves$Shop;", Cond.fieldLink RX0 16 "ParcelShelves$History" "oldest" "I", Cond.fieldLink RX0 20 "ParcelShelves$History" "count" "I", Cond.methodLink RX0 23 yX1_copyFrom, Cond.instanceMethod yX1_copyFrom, Cond.selects RX1 yX1_copyFrom yX1_copyFrom, Cond.initialized RX1, Cond.code yX1_copyFrom cX1_copyFrom 2 none, Cond.fieldLink RX1 57 "ParcelShelves$Shop" "today" "I", Cond.fieldLink RX1 61 "ParcelShelves$Shop" "wrongCodes" "I", Cond.fieldLink RX1 64 "ParcelShelves$Shop" "cameSoFar" "I", Cond.fieldLink RX1 67 "ParcelShelves$Shop" "feesPaid" "I", Cond.fieldLink RX1 9 "ParcelShelves$Shop" "settings" "[I", Cond.methodLink RX1 45 arraycopyName, Cond.native arraycopyName, Cond.static arraycopyName, Cond.initialized "java/lang/System"]
def wsX3_refuse_r2 : List Cond := [Cond.fieldLink RX1 15 "ParcelShelves$Shop" "weekdays" "[I", Cond.fieldLink RX1 18 "ParcelShelves$Shop" "senders" "[I", Cond.fieldLink RX1 21 "ParcelShelves$Shop" "sizes" "[I", Cond.fieldLink RX1 24 "ParcelShelves$Shop" "cameOn" "[I", Cond.fieldLink RX1 27 "ParcelShelves$Shop" "leftOn" "[I", Cond.fieldLink RX1 30 "ParcelShelves$Shop" "bins" "[I", Cond.fieldLink RX1 33 "ParcelShelves$Shop" "charged" "[I", Cond.fieldLink RX1 36 "ParcelShelves$Shop" "fetched" "[I", Cond.fieldLink RX1 39 "ParcelShelves$Shop" "taken" "[I", Cond.methodLink RX3 73 yX3_letRefuse, Cond.instanceMethod yX3_letRefuse, Cond.selects RX3 yX3_letRefuse yX3_letRefuse, Cond.initialized RX3, Cond.code yX3_letRefuse cX3_letRefuse 4 (some .int), Cond.fieldLink RX3 91 "ParcelShelves$Shop" "senders" "[I", Cond.fieldLink RX3 126 "ParcelShelves$Shop" "bins" "[I", Cond.methodLink RX3 88 yX1_placeWith, Cond.instanceMethod yX1_placeWith, Cond.selects RX1 yX1_placeWith yX1_placeWith, Cond.code yX1_placeWith cX1_placeWith 4 (some .int), Cond.static yX3_indexOfCode, Cond.code yX3_indexOfCode cX3_indexOfCode 4 (some .int), Cond.methodLink RX3 59 yX3_isWithin, Cond.static yX3_isWithin]
def wsX3_refuse_r3 : List Cond := [Cond.code yX3_isWithin cX3_isWithin 3 (some .boolean), Cond.methodLink RX3 103 yX3_isPlace, Cond.static yX3_isPlace, Cond.code yX3_isPlace cX3_isPlace 2 (some .boolean), Cond.methodLink RX3 267 yX3_checkDigit, Cond.static yX3_checkDigit, Cond.code yX3_checkDigit cX3_checkDigit 3 (some .int), Cond.methodLink RX3 271 yX3_indexFor, Cond.static yX3_indexFor, Cond.code yX3_indexFor cX3_indexFor 2 (some .int), Cond.methodLink RX3 242 yX3_refuseForNoParcel, Cond.instanceMethod yX3_refuseForNoParcel, Cond.selects RX3 yX3_refuseForNoParcel yX3_refuseForNoParcel, Cond.code yX3_refuseForNoParcel cX3_refuseForNoParcel 4 none, Cond.methodLink RX3 162 yX3_indexOfCode, Cond.methodLink RX3 171 yX1_rests, Cond.instanceMethod yX1_rests, Cond.selects RX1 yX1_rests yX1_rests, Cond.code yX1_rests cX1_rests 2 (some .boolean), Cond.methodLink RX3 235 yX3_refuseFor, Cond.instanceMethod yX3_refuseFor, Cond.selects RX3 yX3_refuseFor yX3_refuseFor, Cond.code yX3_refuseFor cX3_refuseFor 3 none, Cond.fieldLink RX3 40 "ParcelShelves" "reason" "I"]
def wsX3_refuse_r4 : List Cond := [Cond.fieldLink RX3 44 "ParcelShelves" "behind" "I", Cond.methodLink RX3 238 yX1_leave, Cond.instanceMethod yX1_leave, Cond.selects RX1 yX1_leave yX1_leave, Cond.code yX1_leave cX1_leave 2 none, Cond.methodLink RX3 55 yX3_recorded, Cond.instanceMethod yX3_recorded, Cond.selects RX3 yX3_recorded yX3_recorded, Cond.code yX3_recorded cX3_recorded 2 (some .int), Cond.methodLink RX3 211 yX3_isError, Cond.static yX3_isError, Cond.code yX3_isError cX3_isError 1 (some .boolean), Cond.methodLink RX3 261 yX0_keepPrepared, Cond.instanceMethod yX0_keepPrepared, Cond.selects RX0 yX0_keepPrepared yX0_keepPrepared, Cond.code yX0_keepPrepared cX0_keepPrepared 1 none]
def wsX3_refuse : List Cond := .code yX3_refuse cX3_refuse 2 (some .int) :: ((wsX3_refuse_r1 ++ (wsX3_refuse_r2 ++ (wsX3_refuse_r3 ++ wsX3_refuse_r4))) ++ wsX30 ++ wsX00 ++ wsX10)
def wsX3_sizeOfShelf : List Cond := .code yX3_sizeOfShelf cX3_sizeOfShelf 1 (some .int) :: ([])
def wsX3_moveParcel_r1 : List Cond := [Cond.fieldLink RX3 12 "ParcelShelves" "now" "LParcelShelves$Shop;", Cond.fieldLink RX3 94 "ParcelShelves$Shop" "sizes" "[I", Cond.fieldLink RX3 91 "ParcelShelves$Shop" "senders" "[I", Cond.fieldLink RX3 97 "ParcelShelves$Shop" "cameOn" "[I", Cond.methodLink RX3 88 yX1_placeWith, Cond.instanceMethod yX1_placeWith, Cond.selects RX1 yX1_placeWith yX1_placeWith, Cond.initialized RX1, Cond.code yX1_placeWith cX1_placeWith 4 (some .int), Cond.fieldLink RX1 15 "ParcelShelves$Shop" "weekdays" "[I", Cond.static yX3_indexOfCode, Cond.initialized RX3, Cond.code yX3_indexOfCode cX3_indexOfCode 4 (some .int), Cond.methodLink RX3 59 yX3_isWithin, Cond.static yX3_isWithin, Cond.code yX3_isWithin cX3_isWithin 3 (some .boolean), Cond.methodLink RX3 103 yX3_isPlace, Cond.static yX3_isPlace, Cond.code yX3_isPlace cX3_isPlace 2 (some .boolean), Cond.methodLink RX3 267 yX3_checkDigit, Cond.static yX3_checkDigit, Cond.code yX3_checkDigit cX3_checkDigit 3 (some .int), Cond.methodLink RX3 271 yX3_indexFor, Cond.static yX3_indexFor]
def wsX3_moveParcel_r2 : List Cond := [Cond.code yX3_indexFor cX3_indexFor 2 (some .int), Cond.methodLink RX3 242 yX3_refuseForNoParcel, Cond.instanceMethod yX3_refuseForNoParcel, Cond.selects RX3 yX3_refuseForNoParcel yX3_refuseForNoParcel, Cond.code yX3_refuseForNoParcel cX3_refuseForNoParcel 4 none, Cond.methodLink RX3 162 yX3_indexOfCode, Cond.methodLink RX3 171 yX1_rests, Cond.instanceMethod yX1_rests, Cond.selects RX1 yX1_rests yX1_rests, Cond.code yX1_rests cX1_rests 2 (some .boolean), Cond.fieldLink RX1 27 "ParcelShelves$Shop" "leftOn" "[I", Cond.fieldLink RX1 57 "ParcelShelves$Shop" "today" "I", Cond.fieldLink RX1 9 "ParcelShelves$Shop" "settings" "[I", Cond.methodLink RX3 235 yX3_refuseFor, Cond.instanceMethod yX3_refuseFor, Cond.selects RX3 yX3_refuseFor yX3_refuseFor, Cond.code yX3_refuseFor cX3_refuseFor 3 none, Cond.fieldLink RX3 40 "ParcelShelves" "reason" "I", Cond.fieldLink RX3 44 "ParcelShelves" "behind" "I", Cond.methodLink RX3 114 yX3_sizeOfShelf, Cond.static yX3_sizeOfShelf, Cond.code yX3_sizeOfShelf cX3_sizeOfShelf 1 (some .int), Cond.methodLink RX3 180 yX1_placeToGive, Cond.instanceMethod yX1_placeToGive]
def wsX3_moveParcel_r3 : List Cond := [Cond.selects RX1 yX1_placeToGive yX1_placeToGive, Cond.code yX1_placeToGive cX1_placeToGive 5 (some .int), Cond.methodLink RX1 88 yX1_isFree, Cond.instanceMethod yX1_isFree, Cond.selects RX1 yX1_isFree yX1_isFree, Cond.code yX1_isFree cX1_isFree 2 (some .boolean), Cond.methodLink RX1 91 yX1_restsToday, Cond.instanceMethod yX1_restsToday, Cond.selects RX1 yX1_restsToday yX1_restsToday, Cond.code yX1_restsToday cX1_restsToday 2 (some .boolean), Cond.static yX3_weekdayOf, Cond.code yX3_weekdayOf cX3_weekdayOf 1 (some .int), Cond.methodLink RX1 81 yX1_rests, Cond.methodLink RX3 227 yX3_refuseForNoPlace, Cond.instanceMethod yX3_refuseForNoPlace, Cond.selects RX3 yX3_refuseForNoPlace yX3_refuseForNoPlace, Cond.code yX3_refuseForNoPlace cX3_refuseForNoPlace 4 none, Cond.methodLink RX3 264 yX1_hasFreePlace, Cond.instanceMethod yX1_hasFreePlace, Cond.selects RX1 yX1_hasFreePlace yX1_hasFreePlace, Cond.code yX1_hasFreePlace cX1_hasFreePlace 5 (some .boolean), Cond.methodLink RX3 231 yX1_put, Cond.instanceMethod yX1_put, Cond.selects RX1 yX1_put yX1_put]
def wsX3_moveParcel_r4 : List Cond := [Cond.code yX1_put cX1_put 5 none, Cond.fieldLink RX1 18 "ParcelShelves$Shop" "senders" "[I", Cond.fieldLink RX1 21 "ParcelShelves$Shop" "sizes" "[I", Cond.fieldLink RX1 24 "ParcelShelves$Shop" "cameOn" "[I", Cond.methodLink RX3 238 yX1_leave, Cond.instanceMethod yX1_leave, Cond.selects RX1 yX1_leave yX1_leave, Cond.code yX1_leave cX1_leave 2 none, Cond.methodLink RX3 111 yX1_codeOn, Cond.instanceMethod yX1_codeOn, Cond.selects RX1 yX1_codeOn yX1_codeOn, Cond.code yX1_codeOn cX1_codeOn 2 (some .int), Cond.static yX3_codeFor, Cond.code yX3_codeFor cX3_codeFor 4 (some .int)]
def wsX3_moveParcel : List Cond := .code yX3_moveParcel cX3_moveParcel 5 (some .int) :: ((wsX3_moveParcel_r1 ++ (wsX3_moveParcel_r2 ++ (wsX3_moveParcel_r3 ++ wsX3_moveParcel_r4))) ++ wsX30 ++ wsX10)
def wsX3_move_r1 : List Cond := [Cond.fieldLink RX3 25 "ParcelShelves" "history" "LParcelShelves$History;", Cond.fieldLink RX3 12 "ParcelShelves" "now" "LParcelShelves$Shop;", Cond.methodLink RX3 47 yX0_prepare, Cond.instanceMethod yX0_prepare, Cond.selects RX0 yX0_prepare yX0_prepare, Cond.initialized RX0, Cond.code yX0_prepare cX0_prepare 2 none, Cond.fieldLink RX0 11 "ParcelShelves$History" "rows" "[LParcelShelves$Shop;", Cond.fieldLink RX0 16 "ParcelShelves$History" "oldest" "I", Cond.fieldLink RX0 20 "ParcelShelves$History" "count" "I", Cond.methodLink RX0 23 yX1_copyFrom, Cond.instanceMethod yX1_copyFrom, Cond.selects RX1 yX1_copyFrom yX1_copyFrom, Cond.initialized RX1, Cond.code yX1_copyFrom cX1_copyFrom 2 none, Cond.fieldLink RX1 57 "ParcelShelves$Shop" "today" "I", Cond.fieldLink RX1 61 "ParcelShelves$Shop" "wrongCodes" "I", Cond.fieldLink RX1 64 "ParcelShelves$Shop" "cameSoFar" "I", Cond.fieldLink RX1 67 "ParcelShelves$Shop" "feesPaid" "I", Cond.fieldLink RX1 9 "ParcelShelves$Shop" "settings" "[I", Cond.methodLink RX1 45 arraycopyName, Cond.native arraycopyName, Cond.static arraycopyName, Cond.initialized "java/lang/System"]
def wsX3_move_r2 : List Cond := [Cond.fieldLink RX1 15 "ParcelShelves$Shop" "weekdays" "[I", Cond.fieldLink RX1 18 "ParcelShelves$Shop" "senders" "[I", Cond.fieldLink RX1 21 "ParcelShelves$Shop" "sizes" "[I", Cond.fieldLink RX1 24 "ParcelShelves$Shop" "cameOn" "[I", Cond.fieldLink RX1 27 "ParcelShelves$Shop" "leftOn" "[I", Cond.fieldLink RX1 30 "ParcelShelves$Shop" "bins" "[I", Cond.fieldLink RX1 33 "ParcelShelves$Shop" "charged" "[I", Cond.fieldLink RX1 36 "ParcelShelves$Shop" "fetched" "[I", Cond.fieldLink RX1 39 "ParcelShelves$Shop" "taken" "[I", Cond.methodLink RX3 76 yX3_moveParcel, Cond.instanceMethod yX3_moveParcel, Cond.selects RX3 yX3_moveParcel yX3_moveParcel, Cond.initialized RX3, Cond.code yX3_moveParcel cX3_moveParcel 5 (some .int), Cond.fieldLink RX3 94 "ParcelShelves$Shop" "sizes" "[I", Cond.fieldLink RX3 91 "ParcelShelves$Shop" "senders" "[I", Cond.fieldLink RX3 97 "ParcelShelves$Shop" "cameOn" "[I", Cond.methodLink RX3 88 yX1_placeWith, Cond.instanceMethod yX1_placeWith, Cond.selects RX1 yX1_placeWith yX1_placeWith, Cond.code yX1_placeWith cX1_placeWith 4 (some .int), Cond.static yX3_indexOfCode, Cond.code yX3_indexOfCode cX3_indexOfCode 4 (some .int), Cond.methodLink RX3 59 yX3_isWithin]
def wsX3_move_r3 : List Cond := [Cond.static yX3_isWithin, Cond.code yX3_isWithin cX3_isWithin 3 (some .boolean), Cond.methodLink RX3 103 yX3_isPlace, Cond.static yX3_isPlace, Cond.code yX3_isPlace cX3_isPlace 2 (some .boolean), Cond.methodLink RX3 267 yX3_checkDigit, Cond.static yX3_checkDigit, Cond.code yX3_checkDigit cX3_checkDigit 3 (some .int), Cond.methodLink RX3 271 yX3_indexFor, Cond.static yX3_indexFor, Cond.code yX3_indexFor cX3_indexFor 2 (some .int), Cond.methodLink RX3 242 yX3_refuseForNoParcel, Cond.instanceMethod yX3_refuseForNoParcel, Cond.selects RX3 yX3_refuseForNoParcel yX3_refuseForNoParcel, Cond.code yX3_refuseForNoParcel cX3_refuseForNoParcel 4 none, Cond.methodLink RX3 162 yX3_indexOfCode, Cond.methodLink RX3 171 yX1_rests, Cond.instanceMethod yX1_rests, Cond.selects RX1 yX1_rests yX1_rests, Cond.code yX1_rests cX1_rests 2 (some .boolean), Cond.methodLink RX3 235 yX3_refuseFor, Cond.instanceMethod yX3_refuseFor, Cond.selects RX3 yX3_refuseFor yX3_refuseFor, Cond.code yX3_refuseFor cX3_refuseFor 3 none]
def wsX3_move_r4 : List Cond := [Cond.fieldLink RX3 40 "ParcelShelves" "reason" "I", Cond.fieldLink RX3 44 "ParcelShelves" "behind" "I", Cond.methodLink RX3 114 yX3_sizeOfShelf, Cond.static yX3_sizeOfShelf, Cond.code yX3_sizeOfShelf cX3_sizeOfShelf 1 (some .int), Cond.methodLink RX3 180 yX1_placeToGive, Cond.instanceMethod yX1_placeToGive, Cond.selects RX1 yX1_placeToGive yX1_placeToGive, Cond.code yX1_placeToGive cX1_placeToGive 5 (some .int), Cond.methodLink RX1 88 yX1_isFree, Cond.instanceMethod yX1_isFree, Cond.selects RX1 yX1_isFree yX1_isFree, Cond.code yX1_isFree cX1_isFree 2 (some .boolean), Cond.methodLink RX1 91 yX1_restsToday, Cond.instanceMethod yX1_restsToday, Cond.selects RX1 yX1_restsToday yX1_restsToday, Cond.code yX1_restsToday cX1_restsToday 2 (some .boolean), Cond.static yX3_weekdayOf, Cond.code yX3_weekdayOf cX3_weekdayOf 1 (some .int), Cond.methodLink RX1 81 yX1_rests, Cond.methodLink RX3 227 yX3_refuseForNoPlace, Cond.instanceMethod yX3_refuseForNoPlace, Cond.selects RX3 yX3_refuseForNoPlace yX3_refuseForNoPlace, Cond.code yX3_refuseForNoPlace cX3_refuseForNoPlace 4 none]
def wsX3_move_r5 : List Cond := [Cond.methodLink RX3 264 yX1_hasFreePlace, Cond.instanceMethod yX1_hasFreePlace, Cond.selects RX1 yX1_hasFreePlace yX1_hasFreePlace, Cond.code yX1_hasFreePlace cX1_hasFreePlace 5 (some .boolean), Cond.methodLink RX3 231 yX1_put, Cond.instanceMethod yX1_put, Cond.selects RX1 yX1_put yX1_put, Cond.code yX1_put cX1_put 5 none, Cond.methodLink RX3 238 yX1_leave, Cond.instanceMethod yX1_leave, Cond.selects RX1 yX1_leave yX1_leave, Cond.code yX1_leave cX1_leave 2 none, Cond.methodLink RX3 111 yX1_codeOn, Cond.instanceMethod yX1_codeOn, Cond.selects RX1 yX1_codeOn yX1_codeOn, Cond.code yX1_codeOn cX1_codeOn 2 (some .int), Cond.static yX3_codeFor, Cond.code yX3_codeFor cX3_codeFor 4 (some .int), Cond.methodLink RX3 55 yX3_recorded, Cond.instanceMethod yX3_recorded, Cond.selects RX3 yX3_recorded yX3_recorded, Cond.code yX3_recorded cX3_recorded 2 (some .int), Cond.methodLink RX3 211 yX3_isError, Cond.static yX3_isError]
def wsX3_move_r6 : List Cond := [Cond.code yX3_isError cX3_isError 1 (some .boolean), Cond.methodLink RX3 261 yX0_keepPrepared, Cond.instanceMethod yX0_keepPrepared, Cond.selects RX0 yX0_keepPrepared yX0_keepPrepared, Cond.code yX0_keepPrepared cX0_keepPrepared 1 none]
def wsX3_move : List Cond := .code yX3_move cX3_move 3 (some .int) :: ((wsX3_move_r1 ++ (wsX3_move_r2 ++ (wsX3_move_r3 ++ (wsX3_move_r4 ++ (wsX3_move_r5 ++ wsX3_move_r6))))) ++ wsX30 ++ wsX00 ++ wsX10)
def wsX3_letPass_r1 : List Cond := [Cond.fieldLink RX3 12 "ParcelShelves" "now" "LParcelShelves$Shop;", Cond.fieldLink RX3 85 "ParcelShelves$Shop" "today" "I", Cond.methodLink RX3 59 yX3_isWithin, Cond.static yX3_isWithin, Cond.initialized RX3, Cond.code yX3_isWithin cX3_isWithin 3 (some .boolean), Cond.methodLink RX3 186 yX1_beginDay, Cond.instanceMethod yX1_beginDay, Cond.selects RX1 yX1_beginDay yX1_beginDay, Cond.initialized RX1, Cond.code yX1_beginDay cX1_beginDay 1 (some .int), Cond.fieldLink RX1 57 "ParcelShelves$Shop" "today" "I", Cond.fieldLink RX1 61 "ParcelShelves$Shop" "wrongCodes" "I", Cond.methodLink RX1 99 yX1_letCourierCome, Cond.instanceMethod yX1_letCourierCome, Cond.selects RX1 yX1_letCourierCome yX1_letCourierCome, Cond.code yX1_letCourierCome cX1_letCourierCome 2 none, Cond.fieldLink RX1 30 "ParcelShelves$Shop" "bins" "[I", Cond.fieldLink RX1 9 "ParcelShelves$Shop" "settings" "[I", Cond.methodLink RX1 106 yX1_emptyBin, Cond.instanceMethod yX1_emptyBin, Cond.selects RX1 yX1_emptyBin yX1_emptyBin, Cond.code yX1_emptyBin cX1_emptyBin 4 (some .int), Cond.fieldLink RX1 33 "ParcelShelves$Shop" "charged" "[I"]
def wsX3_letPass_r2 : List Cond := [Cond.fieldLink RX1 39 "ParcelShelves$Shop" "taken" "[I", Cond.methodLink RX1 102 yX1_returnParcelsKeptTooLong, Cond.instanceMethod yX1_returnParcelsKeptTooLong, Cond.selects RX1 yX1_returnParcelsKeptTooLong yX1_returnParcelsKeptTooLong, Cond.code yX1_returnParcelsKeptTooLong cX1_returnParcelsKeptTooLong 3 (some .int), Cond.fieldLink RX1 18 "ParcelShelves$Shop" "senders" "[I", Cond.methodLink RX1 109 yX1_isKeptTooLong, Cond.instanceMethod yX1_isKeptTooLong, Cond.selects RX1 yX1_isKeptTooLong yX1_isKeptTooLong, Cond.code yX1_isKeptTooLong cX1_isKeptTooLong 2 (some .boolean), Cond.fieldLink RX1 15 "ParcelShelves$Shop" "weekdays" "[I", Cond.fieldLink RX1 24 "ParcelShelves$Shop" "cameOn" "[I", Cond.methodLink RX1 112 yX1_leave, Cond.instanceMethod yX1_leave, Cond.selects RX1 yX1_leave yX1_leave, Cond.code yX1_leave cX1_leave 2 none, Cond.fieldLink RX1 27 "ParcelShelves$Shop" "leftOn" "[I", Cond.static yX3_indexFor, Cond.code yX3_indexFor cX3_indexFor 2 (some .int)]
def wsX3_letPass : List Cond := .code yX3_letPass cX3_letPass 4 (some .int) :: ((wsX3_letPass_r1 ++ wsX3_letPass_r2) ++ wsX30 ++ wsX10)
def wsX3_pass_r1 : List Cond := [Cond.fieldLink RX3 25 "ParcelShelves" "history" "LParcelShelves$History;", Cond.fieldLink RX3 12 "ParcelShelves" "now" "LParcelShelves$Shop;", Cond.methodLink RX3 47 yX0_prepare, Cond.instanceMethod yX0_prepare, Cond.selects RX0 yX0_prepare yX0_prepare, Cond.initialized RX0, Cond.code yX0_prepare cX0_prepare 2 none, Cond.fieldLink RX0 11 "ParcelShelves$History" "rows" "[LParcelShelves$Shop;", Cond.fieldLink RX0 16 "ParcelShelves$History" "oldest" "I", Cond.fieldLink RX0 20 "ParcelShelves$History" "count" "I", Cond.methodLink RX0 23 yX1_copyFrom, Cond.instanceMethod yX1_copyFrom, Cond.selects RX1 yX1_copyFrom yX1_copyFrom, Cond.initialized RX1, Cond.code yX1_copyFrom cX1_copyFrom 2 none, Cond.fieldLink RX1 57 "ParcelShelves$Shop" "today" "I", Cond.fieldLink RX1 61 "ParcelShelves$Shop" "wrongCodes" "I", Cond.fieldLink RX1 64 "ParcelShelves$Shop" "cameSoFar" "I", Cond.fieldLink RX1 67 "ParcelShelves$Shop" "feesPaid" "I", Cond.fieldLink RX1 9 "ParcelShelves$Shop" "settings" "[I", Cond.methodLink RX1 45 arraycopyName, Cond.native arraycopyName, Cond.static arraycopyName, Cond.initialized "java/lang/System"]
def wsX3_pass_r2 : List Cond := [Cond.fieldLink RX1 15 "ParcelShelves$Shop" "weekdays" "[I", Cond.fieldLink RX1 18 "ParcelShelves$Shop" "senders" "[I", Cond.fieldLink RX1 21 "ParcelShelves$Shop" "sizes" "[I", Cond.fieldLink RX1 24 "ParcelShelves$Shop" "cameOn" "[I", Cond.fieldLink RX1 27 "ParcelShelves$Shop" "leftOn" "[I", Cond.fieldLink RX1 30 "ParcelShelves$Shop" "bins" "[I", Cond.fieldLink RX1 33 "ParcelShelves$Shop" "charged" "[I", Cond.fieldLink RX1 36 "ParcelShelves$Shop" "fetched" "[I", Cond.fieldLink RX1 39 "ParcelShelves$Shop" "taken" "[I", Cond.methodLink RX3 79 yX3_letPass, Cond.instanceMethod yX3_letPass, Cond.selects RX3 yX3_letPass yX3_letPass, Cond.initialized RX3, Cond.code yX3_letPass cX3_letPass 4 (some .int), Cond.fieldLink RX3 85 "ParcelShelves$Shop" "today" "I", Cond.methodLink RX3 59 yX3_isWithin, Cond.static yX3_isWithin, Cond.code yX3_isWithin cX3_isWithin 3 (some .boolean), Cond.methodLink RX3 186 yX1_beginDay, Cond.instanceMethod yX1_beginDay, Cond.selects RX1 yX1_beginDay yX1_beginDay, Cond.code yX1_beginDay cX1_beginDay 1 (some .int), Cond.methodLink RX1 99 yX1_letCourierCome, Cond.instanceMethod yX1_letCourierCome]
def wsX3_pass_r3 : List Cond := [Cond.selects RX1 yX1_letCourierCome yX1_letCourierCome, Cond.code yX1_letCourierCome cX1_letCourierCome 2 none, Cond.methodLink RX1 106 yX1_emptyBin, Cond.instanceMethod yX1_emptyBin, Cond.selects RX1 yX1_emptyBin yX1_emptyBin, Cond.code yX1_emptyBin cX1_emptyBin 4 (some .int), Cond.methodLink RX1 102 yX1_returnParcelsKeptTooLong, Cond.instanceMethod yX1_returnParcelsKeptTooLong, Cond.selects RX1 yX1_returnParcelsKeptTooLong yX1_returnParcelsKeptTooLong, Cond.code yX1_returnParcelsKeptTooLong cX1_returnParcelsKeptTooLong 3 (some .int), Cond.methodLink RX1 109 yX1_isKeptTooLong, Cond.instanceMethod yX1_isKeptTooLong, Cond.selects RX1 yX1_isKeptTooLong yX1_isKeptTooLong, Cond.code yX1_isKeptTooLong cX1_isKeptTooLong 2 (some .boolean), Cond.methodLink RX1 112 yX1_leave, Cond.instanceMethod yX1_leave, Cond.selects RX1 yX1_leave yX1_leave, Cond.code yX1_leave cX1_leave 2 none, Cond.static yX3_indexFor, Cond.code yX3_indexFor cX3_indexFor 2 (some .int), Cond.methodLink RX3 55 yX3_recorded, Cond.instanceMethod yX3_recorded, Cond.selects RX3 yX3_recorded yX3_recorded, Cond.code yX3_recorded cX3_recorded 2 (some .int)]
def wsX3_pass_r4 : List Cond := [Cond.methodLink RX3 211 yX3_isError, Cond.static yX3_isError, Cond.code yX3_isError cX3_isError 1 (some .boolean), Cond.methodLink RX3 261 yX0_keepPrepared, Cond.instanceMethod yX0_keepPrepared, Cond.selects RX0 yX0_keepPrepared yX0_keepPrepared, Cond.code yX0_keepPrepared cX0_keepPrepared 1 none]
def wsX3_pass : List Cond := .code yX3_pass cX3_pass 2 (some .int) :: ((wsX3_pass_r1 ++ (wsX3_pass_r2 ++ (wsX3_pass_r3 ++ wsX3_pass_r4))) ++ wsX30 ++ wsX00 ++ wsX10)
def wsX3_callCourier : List Cond := .code yX3_callCourier cX3_callCourier 2 (some .int) :: ([.fieldLink RX3 12 "ParcelShelves" "now" "LParcelShelves$Shop;", .fieldLink RX3 126 "ParcelShelves$Shop" "bins" "[I", .methodLink RX3 59 yX3_isWithin, .static yX3_isWithin, .initialized RX3, .code yX3_isWithin cX3_isWithin 3 (some .boolean), .methodLink RX3 245 yX1_emptyBin, .instanceMethod yX1_emptyBin, .selects RX1 yX1_emptyBin yX1_emptyBin, .initialized RX1, .code yX1_emptyBin cX1_emptyBin 4 (some .int), .fieldLink RX1 9 "ParcelShelves$Shop" "settings" "[I", .fieldLink RX1 30 "ParcelShelves$Shop" "bins" "[I", .fieldLink RX1 33 "ParcelShelves$Shop" "charged" "[I", .fieldLink RX1 39 "ParcelShelves$Shop" "taken" "[I"] ++ wsX30 ++ wsX10)
def wsX3_call_r1 : List Cond := [Cond.fieldLink RX3 25 "ParcelShelves" "history" "LParcelShelves$History;", Cond.fieldLink RX3 12 "ParcelShelves" "now" "LParcelShelves$Shop;", Cond.methodLink RX3 47 yX0_prepare, Cond.instanceMethod yX0_prepare, Cond.selects RX0 yX0_prepare yX0_prepare, Cond.initialized RX0, Cond.code yX0_prepare cX0_prepare 2 none, Cond.fieldLink RX0 11 "ParcelShelves$History" "rows" "[LParcelShelves$Shop;", Cond.fieldLink RX0 16 "ParcelShelves$History" "oldest" "I", Cond.fieldLink RX0 20 "ParcelShelves$History" "count" "I", Cond.methodLink RX0 23 yX1_copyFrom, Cond.instanceMethod yX1_copyFrom, Cond.selects RX1 yX1_copyFrom yX1_copyFrom, Cond.initialized RX1, Cond.code yX1_copyFrom cX1_copyFrom 2 none, Cond.fieldLink RX1 57 "ParcelShelves$Shop" "today" "I", Cond.fieldLink RX1 61 "ParcelShelves$Shop" "wrongCodes" "I", Cond.fieldLink RX1 64 "ParcelShelves$Shop" "cameSoFar" "I", Cond.fieldLink RX1 67 "ParcelShelves$Shop" "feesPaid" "I", Cond.fieldLink RX1 9 "ParcelShelves$Shop" "settings" "[I", Cond.methodLink RX1 45 arraycopyName, Cond.native arraycopyName, Cond.static arraycopyName, Cond.initialized "java/lang/System"]
def wsX3_call_r2 : List Cond := [Cond.fieldLink RX1 15 "ParcelShelves$Shop" "weekdays" "[I", Cond.fieldLink RX1 18 "ParcelShelves$Shop" "senders" "[I", Cond.fieldLink RX1 21 "ParcelShelves$Shop" "sizes" "[I", Cond.fieldLink RX1 24 "ParcelShelves$Shop" "cameOn" "[I", Cond.fieldLink RX1 27 "ParcelShelves$Shop" "leftOn" "[I", Cond.fieldLink RX1 30 "ParcelShelves$Shop" "bins" "[I", Cond.fieldLink RX1 33 "ParcelShelves$Shop" "charged" "[I", Cond.fieldLink RX1 36 "ParcelShelves$Shop" "fetched" "[I", Cond.fieldLink RX1 39 "ParcelShelves$Shop" "taken" "[I", Cond.methodLink RX3 82 yX3_callCourier, Cond.instanceMethod yX3_callCourier, Cond.selects RX3 yX3_callCourier yX3_callCourier, Cond.initialized RX3, Cond.code yX3_callCourier cX3_callCourier 2 (some .int), Cond.fieldLink RX3 126 "ParcelShelves$Shop" "bins" "[I", Cond.methodLink RX3 59 yX3_isWithin, Cond.static yX3_isWithin, Cond.code yX3_isWithin cX3_isWithin 3 (some .boolean), Cond.methodLink RX3 245 yX1_emptyBin, Cond.instanceMethod yX1_emptyBin, Cond.selects RX1 yX1_emptyBin yX1_emptyBin, Cond.code yX1_emptyBin cX1_emptyBin 4 (some .int), Cond.methodLink RX3 55 yX3_recorded, Cond.instanceMethod yX3_recorded]
def wsX3_call_r3 : List Cond := [Cond.selects RX3 yX3_recorded yX3_recorded, Cond.code yX3_recorded cX3_recorded 2 (some .int), Cond.methodLink RX3 211 yX3_isError, Cond.static yX3_isError, Cond.code yX3_isError cX3_isError 1 (some .boolean), Cond.methodLink RX3 261 yX0_keepPrepared, Cond.instanceMethod yX0_keepPrepared, Cond.selects RX0 yX0_keepPrepared yX0_keepPrepared, Cond.code yX0_keepPrepared cX0_keepPrepared 1 none]
def wsX3_call : List Cond := .code yX3_call cX3_call 2 (some .int) :: ((wsX3_call_r1 ++ (wsX3_call_r2 ++ wsX3_call_r3)) ++ wsX30 ++ wsX00 ++ wsX10)
def wsX3_day : List Cond := .code yX3_day cX3_day 1 (some .int) :: ([.fieldLink RX3 12 "ParcelShelves" "now" "LParcelShelves$Shop;", .fieldLink RX3 85 "ParcelShelves$Shop" "today" "I"] ++ wsX30 ++ wsX10)
def wsX3_parcel_r1 : List Cond := [Cond.fieldLink RX3 12 "ParcelShelves" "now" "LParcelShelves$Shop;", Cond.fieldLink RX3 91 "ParcelShelves$Shop" "senders" "[I", Cond.fieldLink RX3 94 "ParcelShelves$Shop" "sizes" "[I", Cond.fieldLink RX3 97 "ParcelShelves$Shop" "cameOn" "[I", Cond.methodLink RX3 88 yX1_placeWith, Cond.instanceMethod yX1_placeWith, Cond.selects RX1 yX1_placeWith yX1_placeWith, Cond.initialized RX1, Cond.code yX1_placeWith cX1_placeWith 4 (some .int), Cond.fieldLink RX1 15 "ParcelShelves$Shop" "weekdays" "[I", Cond.static yX3_indexOfCode, Cond.initialized RX3, Cond.code yX3_indexOfCode cX3_indexOfCode 4 (some .int), Cond.methodLink RX3 59 yX3_isWithin, Cond.static yX3_isWithin, Cond.code yX3_isWithin cX3_isWithin 3 (some .boolean), Cond.methodLink RX3 103 yX3_isPlace, Cond.static yX3_isPlace, Cond.code yX3_isPlace cX3_isPlace 2 (some .boolean), Cond.methodLink RX3 267 yX3_checkDigit, Cond.static yX3_checkDigit, Cond.code yX3_checkDigit cX3_checkDigit 3 (some .int), Cond.methodLink RX3 271 yX3_indexFor, Cond.static yX3_indexFor]
def wsX3_parcel_r2 : List Cond := [Cond.code yX3_indexFor cX3_indexFor 2 (some .int), Cond.methodLink RX3 100 yX1_feeAfter, Cond.instanceMethod yX1_feeAfter, Cond.selects RX1 yX1_feeAfter yX1_feeAfter, Cond.code yX1_feeAfter cX1_feeAfter 5 (some .int), Cond.fieldLink RX1 57 "ParcelShelves$Shop" "today" "I", Cond.fieldLink RX1 24 "ParcelShelves$Shop" "cameOn" "[I", Cond.fieldLink RX1 9 "ParcelShelves$Shop" "settings" "[I", Cond.methodLink RX1 94 Lib.Math.max.name, Cond.static Lib.Math.max.name, Cond.initialized "java/lang/Math", Cond.code Lib.Math.max.name Lib.Math.max.code 2 (some .int), Cond.fieldLink RX1 21 "ParcelShelves$Shop" "sizes" "[I"]
def wsX3_parcel : List Cond := .code yX3_parcel cX3_parcel 4 (some .int) :: ((wsX3_parcel_r1 ++ wsX3_parcel_r2) ++ wsX30 ++ wsX10)
def wsX3_codeAt : List Cond := .code yX3_codeAt cX3_codeAt 4 (some .int) :: ([.fieldLink RX3 12 "ParcelShelves" "now" "LParcelShelves$Shop;", .methodLink RX3 103 yX3_isPlace, .static yX3_isPlace, .initialized RX3, .code yX3_isPlace cX3_isPlace 2 (some .boolean), .methodLink RX3 59 yX3_isWithin, .static yX3_isWithin, .code yX3_isWithin cX3_isWithin 3 (some .boolean), .methodLink RX3 107 yX1_isFree, .instanceMethod yX1_isFree, .selects RX1 yX1_isFree yX1_isFree, .initialized RX1, .code yX1_isFree cX1_isFree 2 (some .boolean), .fieldLink RX1 15 "ParcelShelves$Shop" "weekdays" "[I", .methodLink RX3 111 yX1_codeOn, .instanceMethod yX1_codeOn, .selects RX1 yX1_codeOn yX1_codeOn, .code yX1_codeOn cX1_codeOn 2 (some .int), .static yX3_codeFor, .code yX3_codeFor cX3_codeFor 4 (some .int), .methodLink RX3 267 yX3_checkDigit, .static yX3_checkDigit, .code yX3_checkDigit cX3_checkDigit 3 (some .int)] ++ wsX30 ++ wsX10)
def wsX3_shelf_r1 : List Cond := [Cond.fieldLink RX3 12 "ParcelShelves" "now" "LParcelShelves$Shop;", Cond.methodLink RX3 59 yX3_isWithin, Cond.static yX3_isWithin, Cond.initialized RX3, Cond.code yX3_isWithin cX3_isWithin 3 (some .boolean), Cond.methodLink RX3 114 yX3_sizeOfShelf, Cond.static yX3_sizeOfShelf, Cond.code yX3_sizeOfShelf cX3_sizeOfShelf 1 (some .int), Cond.methodLink RX3 117 yX1_parcelsOnShelf, Cond.instanceMethod yX1_parcelsOnShelf, Cond.selects RX1 yX1_parcelsOnShelf yX1_parcelsOnShelf, Cond.initialized RX1, Cond.code yX1_parcelsOnShelf cX1_parcelsOnShelf 4 (some .int), Cond.methodLink RX1 88 yX1_isFree, Cond.instanceMethod yX1_isFree, Cond.selects RX1 yX1_isFree yX1_isFree, Cond.code yX1_isFree cX1_isFree 2 (some .boolean), Cond.fieldLink RX1 15 "ParcelShelves$Shop" "weekdays" "[I", Cond.methodLink RX3 120 yX1_restingOnShelf, Cond.instanceMethod yX1_restingOnShelf, Cond.selects RX1 yX1_restingOnShelf yX1_restingOnShelf, Cond.code yX1_restingOnShelf cX1_restingOnShelf 5 (some .int), Cond.methodLink RX1 91 yX1_restsToday, Cond.instanceMethod yX1_restsToday]
def wsX3_shelf_r2 : List Cond := [Cond.selects RX1 yX1_restsToday yX1_restsToday, Cond.code yX1_restsToday cX1_restsToday 2 (some .boolean), Cond.fieldLink RX1 57 "ParcelShelves$Shop" "today" "I", Cond.static yX3_weekdayOf, Cond.code yX3_weekdayOf cX3_weekdayOf 1 (some .int), Cond.static yX3_indexFor, Cond.code yX3_indexFor cX3_indexFor 2 (some .int), Cond.methodLink RX1 81 yX1_rests, Cond.instanceMethod yX1_rests, Cond.selects RX1 yX1_rests yX1_rests, Cond.code yX1_rests cX1_rests 2 (some .boolean), Cond.fieldLink RX1 27 "ParcelShelves$Shop" "leftOn" "[I", Cond.fieldLink RX1 9 "ParcelShelves$Shop" "settings" "[I"]
def wsX3_shelf : List Cond := .code yX3_shelf cX3_shelf 3 (some .int) :: ((wsX3_shelf_r1 ++ wsX3_shelf_r2) ++ wsX30 ++ wsX10)
def wsX3_sender : List Cond := .code yX3_sender cX3_sender 3 (some .int) :: ([.fieldLink RX3 12 "ParcelShelves" "now" "LParcelShelves$Shop;", .fieldLink RX3 126 "ParcelShelves$Shop" "bins" "[I", .fieldLink RX3 129 "ParcelShelves$Shop" "charged" "[I", .fieldLink RX3 132 "ParcelShelves$Shop" "fetched" "[I", .fieldLink RX3 135 "ParcelShelves$Shop" "taken" "[I", .methodLink RX3 59 yX3_isWithin, .static yX3_isWithin, .initialized RX3, .code yX3_isWithin cX3_isWithin 3 (some .boolean), .methodLink RX3 123 yX1_parcelsOfSender, .instanceMethod yX1_parcelsOfSender, .selects RX1 yX1_parcelsOfSender yX1_parcelsOfSender, .initialized RX1, .code yX1_parcelsOfSender cX1_parcelsOfSender 4 (some .int), .fieldLink RX1 18 "ParcelShelves$Shop" "senders" "[I", .methodLink RX1 88 yX1_isFree, .instanceMethod yX1_isFree, .selects RX1 yX1_isFree yX1_isFree, .code yX1_isFree cX1_isFree 2 (some .boolean), .fieldLink RX1 15 "ParcelShelves$Shop" "weekdays" "[I"] ++ wsX30 ++ wsX10)
def wsX3_sum : List Cond := .code yX3_sum cX3_sum 6 (some .int) :: ([])
def wsX3_total_r1 : List Cond := [Cond.fieldLink RX3 12 "ParcelShelves" "now" "LParcelShelves$Shop;", Cond.fieldLink RX3 126 "ParcelShelves$Shop" "bins" "[I", Cond.fieldLink RX3 146 "ParcelShelves$Shop" "cameSoFar" "I", Cond.fieldLink RX3 132 "ParcelShelves$Shop" "fetched" "[I", Cond.fieldLink RX3 135 "ParcelShelves$Shop" "taken" "[I", Cond.fieldLink RX3 149 "ParcelShelves$Shop" "feesPaid" "I", Cond.fieldLink RX3 129 "ParcelShelves$Shop" "charged" "[I", Cond.fieldLink RX3 152 "ParcelShelves$Shop" "wrongCodes" "I", Cond.methodLink RX3 138 yX1_parcelsOnShelves, Cond.instanceMethod yX1_parcelsOnShelves, Cond.selects RX1 yX1_parcelsOnShelves yX1_parcelsOnShelves, Cond.initialized RX1, Cond.code yX1_parcelsOnShelves cX1_parcelsOnShelves 3 (some .int), Cond.methodLink RX1 116 yX1_parcelsOnShelf, Cond.instanceMethod yX1_parcelsOnShelf, Cond.selects RX1 yX1_parcelsOnShelf yX1_parcelsOnShelf, Cond.code yX1_parcelsOnShelf cX1_parcelsOnShelf 4 (some .int), Cond.methodLink RX1 88 yX1_isFree, Cond.instanceMethod yX1_isFree, Cond.selects RX1 yX1_isFree yX1_isFree, Cond.code yX1_isFree cX1_isFree 2 (some .boolean), Cond.fieldLink RX1 15 "ParcelShelves$Shop" "weekdays" "[I", Cond.methodLink RX3 142 yX3_sum, Cond.static yX3_sum]
def wsX3_total_r2 : List Cond := [Cond.initialized RX3, Cond.code yX3_sum cX3_sum 6 (some .int), Cond.methodLink RX3 155 yX1_isLocked, Cond.instanceMethod yX1_isLocked, Cond.selects RX1 yX1_isLocked yX1_isLocked, Cond.code yX1_isLocked cX1_isLocked 1 (some .boolean), Cond.fieldLink RX1 61 "ParcelShelves$Shop" "wrongCodes" "I", Cond.methodLink RX3 159 yX1_feesOnShelves, Cond.instanceMethod yX1_feesOnShelves, Cond.selects RX1 yX1_feesOnShelves yX1_feesOnShelves, Cond.code yX1_feesOnShelves cX1_feesOnShelves 3 (some .int), Cond.methodLink RX1 119 yX1_feeAfter, Cond.instanceMethod yX1_feeAfter, Cond.selects RX1 yX1_feeAfter yX1_feeAfter, Cond.code yX1_feeAfter cX1_feeAfter 5 (some .int), Cond.fieldLink RX1 57 "ParcelShelves$Shop" "today" "I", Cond.fieldLink RX1 24 "ParcelShelves$Shop" "cameOn" "[I", Cond.fieldLink RX1 9 "ParcelShelves$Shop" "settings" "[I", Cond.methodLink RX1 94 Lib.Math.max.name, Cond.static Lib.Math.max.name, Cond.initialized "java/lang/Math", Cond.code Lib.Math.max.name Lib.Math.max.code 2 (some .int), Cond.fieldLink RX1 21 "ParcelShelves$Shop" "sizes" "[I"]
def wsX3_total : List Cond := .code yX3_total cX3_total 2 (some .int) :: ((wsX3_total_r1 ++ wsX3_total_r2) ++ wsX30 ++ wsX10)
def wsX3_refusal : List Cond := .code yX3_refusal cX3_refusal 2 (some .int) :: ([.fieldLink RX3 40 "ParcelShelves" "reason" "I", .fieldLink RX3 44 "ParcelShelves" "behind" "I"] ++ wsX30)
def wsX3_isCode : List Cond := .code yX3_isCode cX3_isCode 2 (some .int) :: ([.methodLink RX3 59 yX3_isWithin, .static yX3_isWithin, .initialized RX3, .code yX3_isWithin cX3_isWithin 3 (some .boolean), .methodLink RX3 162 yX3_indexOfCode, .static yX3_indexOfCode, .code yX3_indexOfCode cX3_indexOfCode 4 (some .int), .methodLink RX3 103 yX3_isPlace, .static yX3_isPlace, .code yX3_isPlace cX3_isPlace 2 (some .boolean), .methodLink RX3 267 yX3_checkDigit, .static yX3_checkDigit, .code yX3_checkDigit cX3_checkDigit 3 (some .int), .methodLink RX3 271 yX3_indexFor, .static yX3_indexFor, .code yX3_indexFor cX3_indexFor 2 (some .int)])
def wsX3_codeOf : List Cond := .code yX3_codeOf cX3_codeOf 4 (some .int) :: ([.methodLink RX3 103 yX3_isPlace, .static yX3_isPlace, .initialized RX3, .code yX3_isPlace cX3_isPlace 2 (some .boolean), .methodLink RX3 59 yX3_isWithin, .static yX3_isWithin, .code yX3_isWithin cX3_isWithin 3 (some .boolean), .methodLink RX3 165 yX3_weekdayOf, .static yX3_weekdayOf, .code yX3_weekdayOf cX3_weekdayOf 1 (some .int), .methodLink RX3 168 yX3_codeFor, .static yX3_codeFor, .code yX3_codeFor cX3_codeFor 4 (some .int), .methodLink RX3 267 yX3_checkDigit, .static yX3_checkDigit, .code yX3_checkDigit cX3_checkDigit 3 (some .int)])
def wsX3_restsUntil_r1 : List Cond := [Cond.fieldLink RX3 12 "ParcelShelves" "now" "LParcelShelves$Shop;", Cond.fieldLink RX3 174 "ParcelShelves$Shop" "leftOn" "[I", Cond.fieldLink RX3 63 "ParcelShelves$Shop" "settings" "[I", Cond.methodLink RX3 59 yX3_isWithin, Cond.static yX3_isWithin, Cond.initialized RX3, Cond.code yX3_isWithin cX3_isWithin 3 (some .boolean), Cond.methodLink RX3 162 yX3_indexOfCode, Cond.static yX3_indexOfCode, Cond.code yX3_indexOfCode cX3_indexOfCode 4 (some .int), Cond.methodLink RX3 103 yX3_isPlace, Cond.static yX3_isPlace, Cond.code yX3_isPlace cX3_isPlace 2 (some .boolean), Cond.methodLink RX3 267 yX3_checkDigit, Cond.static yX3_checkDigit, Cond.code yX3_checkDigit cX3_checkDigit 3 (some .int), Cond.methodLink RX3 271 yX3_indexFor, Cond.static yX3_indexFor, Cond.code yX3_indexFor cX3_indexFor 2 (some .int), Cond.methodLink RX3 171 yX1_rests, Cond.instanceMethod yX1_rests, Cond.selects RX1 yX1_rests yX1_rests, Cond.initialized RX1, Cond.code yX1_rests cX1_rests 2 (some .boolean)]
def wsX3_restsUntil_r2 : List Cond := [Cond.fieldLink RX1 27 "ParcelShelves$Shop" "leftOn" "[I", Cond.fieldLink RX1 57 "ParcelShelves$Shop" "today" "I", Cond.fieldLink RX1 9 "ParcelShelves$Shop" "settings" "[I"]
def wsX3_restsUntil : List Cond := .code yX3_restsUntil cX3_restsUntil 3 (some .int) :: ((wsX3_restsUntil_r1 ++ wsX3_restsUntil_r2) ++ wsX30 ++ wsX10)
def wsX3_nextCode_r1 : List Cond := [Cond.fieldLink RX3 12 "ParcelShelves" "now" "LParcelShelves$Shop;", Cond.fieldLink RX3 85 "ParcelShelves$Shop" "today" "I", Cond.methodLink RX3 59 yX3_isWithin, Cond.static yX3_isWithin, Cond.initialized RX3, Cond.code yX3_isWithin cX3_isWithin 3 (some .boolean), Cond.methodLink RX3 177 yX3_firstShelfFor, Cond.static yX3_firstShelfFor, Cond.code yX3_firstShelfFor cX3_firstShelfFor 1 (some .int), Cond.methodLink RX3 180 yX1_placeToGive, Cond.instanceMethod yX1_placeToGive, Cond.selects RX1 yX1_placeToGive yX1_placeToGive, Cond.initialized RX1, Cond.code yX1_placeToGive cX1_placeToGive 5 (some .int), Cond.methodLink RX1 88 yX1_isFree, Cond.instanceMethod yX1_isFree, Cond.selects RX1 yX1_isFree yX1_isFree, Cond.code yX1_isFree cX1_isFree 2 (some .boolean), Cond.fieldLink RX1 15 "ParcelShelves$Shop" "weekdays" "[I", Cond.methodLink RX1 91 yX1_restsToday, Cond.instanceMethod yX1_restsToday, Cond.selects RX1 yX1_restsToday yX1_restsToday, Cond.code yX1_restsToday cX1_restsToday 2 (some .boolean), Cond.fieldLink RX1 57 "ParcelShelves$Shop" "today" "I"]
def wsX3_nextCode_r2 : List Cond := [Cond.static yX3_weekdayOf, Cond.code yX3_weekdayOf cX3_weekdayOf 1 (some .int), Cond.static yX3_indexFor, Cond.code yX3_indexFor cX3_indexFor 2 (some .int), Cond.methodLink RX1 81 yX1_rests, Cond.instanceMethod yX1_rests, Cond.selects RX1 yX1_rests yX1_rests, Cond.code yX1_rests cX1_rests 2 (some .boolean), Cond.fieldLink RX1 27 "ParcelShelves$Shop" "leftOn" "[I", Cond.fieldLink RX1 9 "ParcelShelves$Shop" "settings" "[I", Cond.methodLink RX3 165 yX3_weekdayOf, Cond.methodLink RX3 168 yX3_codeFor, Cond.static yX3_codeFor, Cond.code yX3_codeFor cX3_codeFor 4 (some .int), Cond.methodLink RX3 267 yX3_checkDigit, Cond.static yX3_checkDigit, Cond.code yX3_checkDigit cX3_checkDigit 3 (some .int)]
def wsX3_nextCode : List Cond := .code yX3_nextCode cX3_nextCode 3 (some .int) :: ((wsX3_nextCode_r1 ++ wsX3_nextCode_r2) ++ wsX30 ++ wsX10)
def wsX3_feeIn_r1 : List Cond := [Cond.fieldLink RX3 12 "ParcelShelves" "now" "LParcelShelves$Shop;", Cond.methodLink RX3 88 yX1_placeWith, Cond.instanceMethod yX1_placeWith, Cond.selects RX1 yX1_placeWith yX1_placeWith, Cond.initialized RX1, Cond.code yX1_placeWith cX1_placeWith 4 (some .int), Cond.fieldLink RX1 15 "ParcelShelves$Shop" "weekdays" "[I", Cond.static yX3_indexOfCode, Cond.initialized RX3, Cond.code yX3_indexOfCode cX3_indexOfCode 4 (some .int), Cond.methodLink RX3 59 yX3_isWithin, Cond.static yX3_isWithin, Cond.code yX3_isWithin cX3_isWithin 3 (some .boolean), Cond.methodLink RX3 103 yX3_isPlace, Cond.static yX3_isPlace, Cond.code yX3_isPlace cX3_isPlace 2 (some .boolean), Cond.methodLink RX3 267 yX3_checkDigit, Cond.static yX3_checkDigit, Cond.code yX3_checkDigit cX3_checkDigit 3 (some .int), Cond.methodLink RX3 271 yX3_indexFor, Cond.static yX3_indexFor, Cond.code yX3_indexFor cX3_indexFor 2 (some .int), Cond.methodLink RX3 100 yX1_feeAfter, Cond.instanceMethod yX1_feeAfter]
def wsX3_feeIn_r2 : List Cond := [Cond.selects RX1 yX1_feeAfter yX1_feeAfter, Cond.code yX1_feeAfter cX1_feeAfter 5 (some .int), Cond.fieldLink RX1 57 "ParcelShelves$Shop" "today" "I", Cond.fieldLink RX1 24 "ParcelShelves$Shop" "cameOn" "[I", Cond.fieldLink RX1 9 "ParcelShelves$Shop" "settings" "[I", Cond.methodLink RX1 94 Lib.Math.max.name, Cond.static Lib.Math.max.name, Cond.initialized "java/lang/Math", Cond.code Lib.Math.max.name Lib.Math.max.code 2 (some .int), Cond.fieldLink RX1 21 "ParcelShelves$Shop" "sizes" "[I"]
def wsX3_feeIn : List Cond := .code yX3_feeIn cX3_feeIn 4 (some .int) :: ((wsX3_feeIn_r1 ++ wsX3_feeIn_r2) ++ wsX30 ++ wsX10)
def wsX3_goesIn_r1 : List Cond := [Cond.fieldLink RX3 12 "ParcelShelves" "now" "LParcelShelves$Shop;", Cond.fieldLink RX3 19 "ParcelShelves" "ahead" "LParcelShelves$Shop;", Cond.methodLink RX3 88 yX1_placeWith, Cond.instanceMethod yX1_placeWith, Cond.selects RX1 yX1_placeWith yX1_placeWith, Cond.initialized RX1, Cond.code yX1_placeWith cX1_placeWith 4 (some .int), Cond.fieldLink RX1 15 "ParcelShelves$Shop" "weekdays" "[I", Cond.static yX3_indexOfCode, Cond.initialized RX3, Cond.code yX3_indexOfCode cX3_indexOfCode 4 (some .int), Cond.methodLink RX3 59 yX3_isWithin, Cond.static yX3_isWithin, Cond.code yX3_isWithin cX3_isWithin 3 (some .boolean), Cond.methodLink RX3 103 yX3_isPlace, Cond.static yX3_isPlace, Cond.code yX3_isPlace cX3_isPlace 2 (some .boolean), Cond.methodLink RX3 267 yX3_checkDigit, Cond.static yX3_checkDigit, Cond.code yX3_checkDigit cX3_checkDigit 3 (some .int), Cond.methodLink RX3 271 yX3_indexFor, Cond.static yX3_indexFor, Cond.code yX3_indexFor cX3_indexFor 2 (some .int), Cond.methodLink RX3 183 yX1_copyFrom]
def wsX3_goesIn_r2 : List Cond := [Cond.instanceMethod yX1_copyFrom, Cond.selects RX1 yX1_copyFrom yX1_copyFrom, Cond.code yX1_copyFrom cX1_copyFrom 2 none, Cond.fieldLink RX1 57 "ParcelShelves$Shop" "today" "I", Cond.fieldLink RX1 61 "ParcelShelves$Shop" "wrongCodes" "I", Cond.fieldLink RX1 64 "ParcelShelves$Shop" "cameSoFar" "I", Cond.fieldLink RX1 67 "ParcelShelves$Shop" "feesPaid" "I", Cond.fieldLink RX1 9 "ParcelShelves$Shop" "settings" "[I", Cond.methodLink RX1 45 arraycopyName, Cond.native arraycopyName, Cond.static arraycopyName, Cond.initialized "java/lang/System", Cond.fieldLink RX1 18 "ParcelShelves$Shop" "senders" "[I", Cond.fieldLink RX1 21 "ParcelShelves$Shop" "sizes" "[I", Cond.fieldLink RX1 24 "ParcelShelves$Shop" "cameOn" "[I", Cond.fieldLink RX1 27 "ParcelShelves$Shop" "leftOn" "[I", Cond.fieldLink RX1 30 "ParcelShelves$Shop" "bins" "[I", Cond.fieldLink RX1 33 "ParcelShelves$Shop" "charged" "[I", Cond.fieldLink RX1 36 "ParcelShelves$Shop" "fetched" "[I", Cond.fieldLink RX1 39 "ParcelShelves$Shop" "taken" "[I", Cond.methodLink RX3 186 yX1_beginDay, Cond.instanceMethod yX1_beginDay, Cond.selects RX1 yX1_beginDay yX1_beginDay, Cond.code yX1_beginDay cX1_beginDay 1 (some .int)]
def wsX3_goesIn_r3 : List Cond := [Cond.methodLink RX1 99 yX1_letCourierCome, Cond.instanceMethod yX1_letCourierCome, Cond.selects RX1 yX1_letCourierCome yX1_letCourierCome, Cond.code yX1_letCourierCome cX1_letCourierCome 2 none, Cond.methodLink RX1 106 yX1_emptyBin, Cond.instanceMethod yX1_emptyBin, Cond.selects RX1 yX1_emptyBin yX1_emptyBin, Cond.code yX1_emptyBin cX1_emptyBin 4 (some .int), Cond.methodLink RX1 102 yX1_returnParcelsKeptTooLong, Cond.instanceMethod yX1_returnParcelsKeptTooLong, Cond.selects RX1 yX1_returnParcelsKeptTooLong yX1_returnParcelsKeptTooLong, Cond.code yX1_returnParcelsKeptTooLong cX1_returnParcelsKeptTooLong 3 (some .int), Cond.methodLink RX1 109 yX1_isKeptTooLong, Cond.instanceMethod yX1_isKeptTooLong, Cond.selects RX1 yX1_isKeptTooLong yX1_isKeptTooLong, Cond.code yX1_isKeptTooLong cX1_isKeptTooLong 2 (some .boolean), Cond.methodLink RX1 112 yX1_leave, Cond.instanceMethod yX1_leave, Cond.selects RX1 yX1_leave yX1_leave, Cond.code yX1_leave cX1_leave 2 none, Cond.methodLink RX3 107 yX1_isFree, Cond.instanceMethod yX1_isFree, Cond.selects RX1 yX1_isFree yX1_isFree, Cond.code yX1_isFree cX1_isFree 2 (some .boolean)]
def wsX3_goesIn : List Cond := .code yX3_goesIn cX3_goesIn 4 (some .int) :: ((wsX3_goesIn_r1 ++ (wsX3_goesIn_r2 ++ wsX3_goesIn_r3)) ++ wsX30 ++ wsX10)
def wsX3_chargesIn_r1 : List Cond := [Cond.fieldLink RX3 19 "ParcelShelves" "ahead" "LParcelShelves$Shop;", Cond.fieldLink RX3 12 "ParcelShelves" "now" "LParcelShelves$Shop;", Cond.fieldLink RX3 129 "ParcelShelves$Shop" "charged" "[I", Cond.methodLink RX3 59 yX3_isWithin, Cond.static yX3_isWithin, Cond.initialized RX3, Cond.code yX3_isWithin cX3_isWithin 3 (some .boolean), Cond.methodLink RX3 183 yX1_copyFrom, Cond.instanceMethod yX1_copyFrom, Cond.selects RX1 yX1_copyFrom yX1_copyFrom, Cond.initialized RX1, Cond.code yX1_copyFrom cX1_copyFrom 2 none, Cond.fieldLink RX1 57 "ParcelShelves$Shop" "today" "I", Cond.fieldLink RX1 61 "ParcelShelves$Shop" "wrongCodes" "I", Cond.fieldLink RX1 64 "ParcelShelves$Shop" "cameSoFar" "I", Cond.fieldLink RX1 67 "ParcelShelves$Shop" "feesPaid" "I", Cond.fieldLink RX1 9 "ParcelShelves$Shop" "settings" "[I", Cond.methodLink RX1 45 arraycopyName, Cond.native arraycopyName, Cond.static arraycopyName, Cond.initialized "java/lang/System", Cond.fieldLink RX1 15 "ParcelShelves$Shop" "weekdays" "[I", Cond.fieldLink RX1 18 "ParcelShelves$Shop" "senders" "[I", Cond.fieldLink RX1 21 "ParcelShelves$Shop" "sizes" "[I"]
def wsX3_chargesIn_r2 : List Cond := [Cond.fieldLink RX1 24 "ParcelShelves$Shop" "cameOn" "[I", Cond.fieldLink RX1 27 "ParcelShelves$Shop" "leftOn" "[I", Cond.fieldLink RX1 30 "ParcelShelves$Shop" "bins" "[I", Cond.fieldLink RX1 33 "ParcelShelves$Shop" "charged" "[I", Cond.fieldLink RX1 36 "ParcelShelves$Shop" "fetched" "[I", Cond.fieldLink RX1 39 "ParcelShelves$Shop" "taken" "[I", Cond.methodLink RX3 186 yX1_beginDay, Cond.instanceMethod yX1_beginDay, Cond.selects RX1 yX1_beginDay yX1_beginDay, Cond.code yX1_beginDay cX1_beginDay 1 (some .int), Cond.methodLink RX1 99 yX1_letCourierCome, Cond.instanceMethod yX1_letCourierCome, Cond.selects RX1 yX1_letCourierCome yX1_letCourierCome, Cond.code yX1_letCourierCome cX1_letCourierCome 2 none, Cond.methodLink RX1 106 yX1_emptyBin, Cond.instanceMethod yX1_emptyBin, Cond.selects RX1 yX1_emptyBin yX1_emptyBin, Cond.code yX1_emptyBin cX1_emptyBin 4 (some .int), Cond.methodLink RX1 102 yX1_returnParcelsKeptTooLong, Cond.instanceMethod yX1_returnParcelsKeptTooLong, Cond.selects RX1 yX1_returnParcelsKeptTooLong yX1_returnParcelsKeptTooLong, Cond.code yX1_returnParcelsKeptTooLong cX1_returnParcelsKeptTooLong 3 (some .int), Cond.methodLink RX1 109 yX1_isKeptTooLong, Cond.instanceMethod yX1_isKeptTooLong]
def wsX3_chargesIn_r3 : List Cond := [Cond.selects RX1 yX1_isKeptTooLong yX1_isKeptTooLong, Cond.code yX1_isKeptTooLong cX1_isKeptTooLong 2 (some .boolean), Cond.methodLink RX1 112 yX1_leave, Cond.instanceMethod yX1_leave, Cond.selects RX1 yX1_leave yX1_leave, Cond.code yX1_leave cX1_leave 2 none, Cond.static yX3_indexFor, Cond.code yX3_indexFor cX3_indexFor 2 (some .int), Cond.methodLink RX3 142 yX3_sum, Cond.static yX3_sum, Cond.code yX3_sum cX3_sum 6 (some .int)]
def wsX3_chargesIn : List Cond := .code yX3_chargesIn cX3_chargesIn 3 (some .int) :: ((wsX3_chargesIn_r1 ++ (wsX3_chargesIn_r2 ++ wsX3_chargesIn_r3)) ++ wsX30 ++ wsX10)
def wsX3_append : List Cond := .code yX3_append cX3_append 2 (some .int) :: ([.fieldLink RX3 32 "ParcelShelves" "text" "LParcelShelves$Text;", .methodLink RX3 59 yX3_isWithin, .static yX3_isWithin, .initialized RX3, .code yX3_isWithin cX3_isWithin 3 (some .boolean), .methodLink RX3 189 yX2_isFull, .instanceMethod yX2_isFull, .selects RX2 yX2_isFull yX2_isFull, .initialized RX2, .code yX2_isFull cX2_isFull 1 (some .boolean), .fieldLink RX2 15 "ParcelShelves$Text" "length" "I", .methodLink RX3 192 yX2_add, .instanceMethod yX2_add, .selects RX2 yX2_add yX2_add, .code yX2_add cX2_add 2 (some .int), .fieldLink RX2 11 "ParcelShelves$Text" "signs" "[C"] ++ wsX30 ++ wsX20)
def wsX3_clearText : List Cond := .code yX3_clearText cX3_clearText 1 (some .int) :: ([.fieldLink RX3 32 "ParcelShelves" "text" "LParcelShelves$Text;", .methodLink RX3 196 yX2_empty, .instanceMethod yX2_empty, .selects RX2 yX2_empty yX2_empty, .initialized RX2, .code yX2_empty cX2_empty 2 (some .int), .fieldLink RX2 15 "ParcelShelves$Text" "length" "I"] ++ wsX30 ++ wsX20)
def wsX3_errorPosition_r1 : List Cond := [Cond.fieldLink RX3 32 "ParcelShelves" "text" "LParcelShelves$Text;", Cond.methodLink RX3 199 yX2_firstError, Cond.instanceMethod yX2_firstError, Cond.selects RX2 yX2_firstError yX2_firstError, Cond.initialized RX2, Cond.code yX2_firstError cX2_firstError 3 (some .int), Cond.fieldLink RX2 15 "ParcelShelves$Text" "length" "I", Cond.methodLink RX2 23 yX2_signAt, Cond.instanceMethod yX2_signAt, Cond.selects RX2 yX2_signAt yX2_signAt, Cond.code yX2_signAt cX2_signAt 2 (some .char), Cond.fieldLink RX2 11 "ParcelShelves$Text" "signs" "[C", Cond.static yX3_isWithin, Cond.initialized RX3, Cond.code yX3_isWithin cX3_isWithin 3 (some .boolean), Cond.methodLink RX2 27 yX2_phaseAfter, Cond.static yX2_phaseAfter, Cond.code yX2_phaseAfter cX2_phaseAfter 2 (some .int), Cond.methodLink RX2 31 yX2_isEndAllowed, Cond.static yX2_isEndAllowed, Cond.code yX2_isEndAllowed cX2_isEndAllowed 1 (some .boolean), Cond.methodLink RX2 35 yX2_phaseAfterLetter, Cond.static yX2_phaseAfterLetter, Cond.code yX2_phaseAfterLetter cX2_phaseAfterLetter 1 (some .int)]
def wsX3_errorPosition_r2 : List Cond := [Cond.methodLink RX2 39 yX2_isDigit, Cond.static yX2_isDigit, Cond.code yX2_isDigit cX2_isDigit 1 (some .boolean), Cond.methodLink RX2 43 yX2_sizeOf, Cond.static yX2_sizeOf, Cond.code yX2_sizeOf cX2_sizeOf 1 (some .int), Cond.methodLink RX2 46 yX2_phaseAfterFirstDigit, Cond.static yX2_phaseAfterFirstDigit, Cond.code yX2_phaseAfterFirstDigit cX2_phaseAfterFirstDigit 1 (some .int), Cond.methodLink RX2 49 yX2_phaseInCode, Cond.static yX2_phaseInCode, Cond.code yX2_phaseInCode cX2_phaseInCode 2 (some .int)]
def wsX3_errorPosition : List Cond := .code yX3_errorPosition cX3_errorPosition 1 (some .int) :: ((wsX3_errorPosition_r1 ++ wsX3_errorPosition_r2) ++ wsX30 ++ wsX20)
def wsX3_executeCommand_r1 : List Cond := [Cond.fieldLink RX3 32 "ParcelShelves" "text" "LParcelShelves$Text;", Cond.methodLink RX3 248 yX2_signAt, Cond.instanceMethod yX2_signAt, Cond.selects RX2 yX2_signAt yX2_signAt, Cond.initialized RX2, Cond.code yX2_signAt cX2_signAt 2 (some .char), Cond.fieldLink RX2 15 "ParcelShelves$Text" "length" "I", Cond.fieldLink RX2 11 "ParcelShelves$Text" "signs" "[C", Cond.static yX3_isWithin, Cond.initialized RX3, Cond.code yX3_isWithin cX3_isWithin 3 (some .boolean), Cond.methodLink RX3 252 yX2_numberAt, Cond.instanceMethod yX2_numberAt, Cond.selects RX2 yX2_numberAt yX2_numberAt, Cond.code yX2_numberAt cX2_numberAt 5 (some .int), Cond.methodLink RX2 23 yX2_signAt, Cond.methodLink RX3 255 yX2_sizeAt, Cond.instanceMethod yX2_sizeAt, Cond.selects RX2 yX2_sizeAt yX2_sizeAt, Cond.code yX2_sizeAt cX2_sizeAt 2 (some .int), Cond.methodLink RX2 43 yX2_sizeOf, Cond.static yX2_sizeOf, Cond.code yX2_sizeOf cX2_sizeOf 1 (some .int), Cond.methodLink RX3 67 yX3_letCome]
def wsX3_executeCommand_r2 : List Cond := [Cond.instanceMethod yX3_letCome, Cond.selects RX3 yX3_letCome yX3_letCome, Cond.code yX3_letCome cX3_letCome 4 (some .int), Cond.fieldLink RX3 12 "ParcelShelves" "now" "LParcelShelves$Shop;", Cond.fieldLink RX3 85 "ParcelShelves$Shop" "today" "I", Cond.fieldLink RX3 146 "ParcelShelves$Shop" "cameSoFar" "I", Cond.methodLink RX3 59 yX3_isWithin, Cond.methodLink RX3 177 yX3_firstShelfFor, Cond.static yX3_firstShelfFor, Cond.code yX3_firstShelfFor cX3_firstShelfFor 1 (some .int), Cond.methodLink RX3 180 yX1_placeToGive, Cond.instanceMethod yX1_placeToGive, Cond.selects RX1 yX1_placeToGive yX1_placeToGive, Cond.initialized RX1, Cond.code yX1_placeToGive cX1_placeToGive 5 (some .int), Cond.methodLink RX1 88 yX1_isFree, Cond.instanceMethod yX1_isFree, Cond.selects RX1 yX1_isFree yX1_isFree, Cond.code yX1_isFree cX1_isFree 2 (some .boolean), Cond.fieldLink RX1 15 "ParcelShelves$Shop" "weekdays" "[I", Cond.methodLink RX1 91 yX1_restsToday, Cond.instanceMethod yX1_restsToday, Cond.selects RX1 yX1_restsToday yX1_restsToday, Cond.code yX1_restsToday cX1_restsToday 2 (some .boolean)]
def wsX3_executeCommand_r3 : List Cond := [Cond.fieldLink RX1 57 "ParcelShelves$Shop" "today" "I", Cond.static yX3_weekdayOf, Cond.code yX3_weekdayOf cX3_weekdayOf 1 (some .int), Cond.static yX3_indexFor, Cond.code yX3_indexFor cX3_indexFor 2 (some .int), Cond.methodLink RX1 81 yX1_rests, Cond.instanceMethod yX1_rests, Cond.selects RX1 yX1_rests yX1_rests, Cond.code yX1_rests cX1_rests 2 (some .boolean), Cond.fieldLink RX1 27 "ParcelShelves$Shop" "leftOn" "[I", Cond.fieldLink RX1 9 "ParcelShelves$Shop" "settings" "[I", Cond.methodLink RX3 227 yX3_refuseForNoPlace, Cond.instanceMethod yX3_refuseForNoPlace, Cond.selects RX3 yX3_refuseForNoPlace yX3_refuseForNoPlace, Cond.code yX3_refuseForNoPlace cX3_refuseForNoPlace 4 none, Cond.methodLink RX3 264 yX1_hasFreePlace, Cond.instanceMethod yX1_hasFreePlace, Cond.selects RX1 yX1_hasFreePlace yX1_hasFreePlace, Cond.code yX1_hasFreePlace cX1_hasFreePlace 5 (some .boolean), Cond.methodLink RX3 235 yX3_refuseFor, Cond.instanceMethod yX3_refuseFor, Cond.selects RX3 yX3_refuseFor yX3_refuseFor, Cond.code yX3_refuseFor cX3_refuseFor 3 none, Cond.fieldLink RX3 40 "ParcelShelves" "reason" "I"]
def wsX3_executeCommand_r4 : List Cond := [Cond.fieldLink RX3 44 "ParcelShelves" "behind" "I", Cond.methodLink RX3 231 yX1_put, Cond.instanceMethod yX1_put, Cond.selects RX1 yX1_put yX1_put, Cond.code yX1_put cX1_put 5 none, Cond.fieldLink RX1 18 "ParcelShelves$Shop" "senders" "[I", Cond.fieldLink RX1 21 "ParcelShelves$Shop" "sizes" "[I", Cond.fieldLink RX1 24 "ParcelShelves$Shop" "cameOn" "[I", Cond.methodLink RX3 111 yX1_codeOn, Cond.instanceMethod yX1_codeOn, Cond.selects RX1 yX1_codeOn yX1_codeOn, Cond.code yX1_codeOn cX1_codeOn 2 (some .int), Cond.static yX3_codeFor, Cond.code yX3_codeFor cX3_codeFor 4 (some .int), Cond.methodLink RX3 267 yX3_checkDigit, Cond.static yX3_checkDigit, Cond.code yX3_checkDigit cX3_checkDigit 3 (some .int), Cond.methodLink RX3 70 yX3_letFetch, Cond.instanceMethod yX3_letFetch, Cond.selects RX3 yX3_letFetch yX3_letFetch, Cond.code yX3_letFetch cX3_letFetch 4 (some .int), Cond.fieldLink RX3 152 "ParcelShelves$Shop" "wrongCodes" "I", Cond.fieldLink RX3 149 "ParcelShelves$Shop" "feesPaid" "I", Cond.fieldLink RX3 132 "ParcelShelves$Shop" "fetched" "[I"]
def wsX3_executeCommand_r5 : List Cond := [Cond.fieldLink RX3 91 "ParcelShelves$Shop" "senders" "[I", Cond.methodLink RX3 155 yX1_isLocked, Cond.instanceMethod yX1_isLocked, Cond.selects RX1 yX1_isLocked yX1_isLocked, Cond.code yX1_isLocked cX1_isLocked 1 (some .boolean), Cond.fieldLink RX1 61 "ParcelShelves$Shop" "wrongCodes" "I", Cond.methodLink RX3 88 yX1_placeWith, Cond.instanceMethod yX1_placeWith, Cond.selects RX1 yX1_placeWith yX1_placeWith, Cond.code yX1_placeWith cX1_placeWith 4 (some .int), Cond.static yX3_indexOfCode, Cond.code yX3_indexOfCode cX3_indexOfCode 4 (some .int), Cond.methodLink RX3 103 yX3_isPlace, Cond.static yX3_isPlace, Cond.code yX3_isPlace cX3_isPlace 2 (some .boolean), Cond.methodLink RX3 271 yX3_indexFor, Cond.methodLink RX3 100 yX1_feeAfter, Cond.instanceMethod yX1_feeAfter, Cond.selects RX1 yX1_feeAfter yX1_feeAfter, Cond.code yX1_feeAfter cX1_feeAfter 5 (some .int), Cond.methodLink RX1 94 Lib.Math.max.name, Cond.static Lib.Math.max.name, Cond.initialized "java/lang/Math", Cond.code Lib.Math.max.name Lib.Math.max.code 2 (some .int)]
def wsX3_executeCommand_r6 : List Cond := [Cond.methodLink RX3 238 yX1_leave, Cond.instanceMethod yX1_leave, Cond.selects RX1 yX1_leave yX1_leave, Cond.code yX1_leave cX1_leave 2 none, Cond.methodLink RX3 73 yX3_letRefuse, Cond.instanceMethod yX3_letRefuse, Cond.selects RX3 yX3_letRefuse yX3_letRefuse, Cond.code yX3_letRefuse cX3_letRefuse 4 (some .int), Cond.fieldLink RX3 126 "ParcelShelves$Shop" "bins" "[I", Cond.methodLink RX3 242 yX3_refuseForNoParcel, Cond.instanceMethod yX3_refuseForNoParcel, Cond.selects RX3 yX3_refuseForNoParcel yX3_refuseForNoParcel, Cond.code yX3_refuseForNoParcel cX3_refuseForNoParcel 4 none, Cond.methodLink RX3 162 yX3_indexOfCode, Cond.methodLink RX3 171 yX1_rests, Cond.methodLink RX3 76 yX3_moveParcel, Cond.instanceMethod yX3_moveParcel, Cond.selects RX3 yX3_moveParcel yX3_moveParcel, Cond.code yX3_moveParcel cX3_moveParcel 5 (some .int), Cond.fieldLink RX3 94 "ParcelShelves$Shop" "sizes" "[I", Cond.fieldLink RX3 97 "ParcelShelves$Shop" "cameOn" "[I", Cond.methodLink RX3 114 yX3_sizeOfShelf, Cond.static yX3_sizeOfShelf, Cond.code yX3_sizeOfShelf cX3_sizeOfShelf 1 (some .int)]
def wsX3_executeCommand_r7 : List Cond := [Cond.methodLink RX3 258 yX2_endOfCommand, Cond.instanceMethod yX2_endOfCommand, Cond.selects RX2 yX2_endOfCommand yX2_endOfCommand, Cond.code yX2_endOfCommand cX2_endOfCommand 3 (some .int), Cond.methodLink RX3 79 yX3_letPass, Cond.instanceMethod yX3_letPass, Cond.selects RX3 yX3_letPass yX3_letPass, Cond.code yX3_letPass cX3_letPass 4 (some .int), Cond.methodLink RX3 186 yX1_beginDay, Cond.instanceMethod yX1_beginDay, Cond.selects RX1 yX1_beginDay yX1_beginDay, Cond.code yX1_beginDay cX1_beginDay 1 (some .int), Cond.methodLink RX1 99 yX1_letCourierCome, Cond.instanceMethod yX1_letCourierCome, Cond.selects RX1 yX1_letCourierCome yX1_letCourierCome, Cond.code yX1_letCourierCome cX1_letCourierCome 2 none, Cond.fieldLink RX1 30 "ParcelShelves$Shop" "bins" "[I", Cond.methodLink RX1 106 yX1_emptyBin, Cond.instanceMethod yX1_emptyBin, Cond.selects RX1 yX1_emptyBin yX1_emptyBin, Cond.code yX1_emptyBin cX1_emptyBin 4 (some .int), Cond.fieldLink RX1 33 "ParcelShelves$Shop" "charged" "[I", Cond.fieldLink RX1 39 "ParcelShelves$Shop" "taken" "[I", Cond.methodLink RX1 102 yX1_returnParcelsKeptTooLong]
def wsX3_executeCommand_r8 : List Cond := [Cond.instanceMethod yX1_returnParcelsKeptTooLong, Cond.selects RX1 yX1_returnParcelsKeptTooLong yX1_returnParcelsKeptTooLong, Cond.code yX1_returnParcelsKeptTooLong cX1_returnParcelsKeptTooLong 3 (some .int), Cond.methodLink RX1 109 yX1_isKeptTooLong, Cond.instanceMethod yX1_isKeptTooLong, Cond.selects RX1 yX1_isKeptTooLong yX1_isKeptTooLong, Cond.code yX1_isKeptTooLong cX1_isKeptTooLong 2 (some .boolean), Cond.methodLink RX1 112 yX1_leave]
def wsX3_executeCommand : List Cond := .code yX3_executeCommand cX3_executeCommand 2 (some .int) :: ((wsX3_executeCommand_r1 ++ (wsX3_executeCommand_r2 ++ (wsX3_executeCommand_r3 ++ (wsX3_executeCommand_r4 ++ (wsX3_executeCommand_r5 ++ (wsX3_executeCommand_r6 ++ (wsX3_executeCommand_r7 ++ wsX3_executeCommand_r8))))))) ++ wsX30 ++ wsX20 ++ wsX10)
def wsX3_execute_r1 : List Cond := [Cond.fieldLink RX3 32 "ParcelShelves" "text" "LParcelShelves$Text;", Cond.fieldLink RX3 25 "ParcelShelves" "history" "LParcelShelves$History;", Cond.fieldLink RX3 12 "ParcelShelves" "now" "LParcelShelves$Shop;", Cond.fieldLink RX3 202 "ParcelShelves$Text" "length" "I", Cond.methodLink RX3 199 yX2_firstError, Cond.instanceMethod yX2_firstError, Cond.selects RX2 yX2_firstError yX2_firstError, Cond.initialized RX2, Cond.code yX2_firstError cX2_firstError 3 (some .int), Cond.fieldLink RX2 15 "ParcelShelves$Text" "length" "I", Cond.methodLink RX2 23 yX2_signAt, Cond.instanceMethod yX2_signAt, Cond.selects RX2 yX2_signAt yX2_signAt, Cond.code yX2_signAt cX2_signAt 2 (some .char), Cond.fieldLink RX2 11 "ParcelShelves$Text" "signs" "[C", Cond.static yX3_isWithin, Cond.initialized RX3, Cond.code yX3_isWithin cX3_isWithin 3 (some .boolean), Cond.methodLink RX2 27 yX2_phaseAfter, Cond.static yX2_phaseAfter, Cond.code yX2_phaseAfter cX2_phaseAfter 2 (some .int), Cond.methodLink RX2 31 yX2_isEndAllowed, Cond.static yX2_isEndAllowed, Cond.code yX2_isEndAllowed cX2_isEndAllowed 1 (some .boolean)]
def wsX3_execute_r2 : List Cond := [Cond.methodLink RX2 35 yX2_phaseAfterLetter, Cond.static yX2_phaseAfterLetter, Cond.code yX2_phaseAfterLetter cX2_phaseAfterLetter 1 (some .int), Cond.methodLink RX2 39 yX2_isDigit, Cond.static yX2_isDigit, Cond.code yX2_isDigit cX2_isDigit 1 (some .boolean), Cond.methodLink RX2 43 yX2_sizeOf, Cond.static yX2_sizeOf, Cond.code yX2_sizeOf cX2_sizeOf 1 (some .int), Cond.methodLink RX2 46 yX2_phaseAfterFirstDigit, Cond.static yX2_phaseAfterFirstDigit, Cond.code yX2_phaseAfterFirstDigit cX2_phaseAfterFirstDigit 1 (some .int), Cond.methodLink RX2 49 yX2_phaseInCode, Cond.static yX2_phaseInCode, Cond.code yX2_phaseInCode cX2_phaseInCode 2 (some .int), Cond.methodLink RX3 47 yX0_prepare, Cond.instanceMethod yX0_prepare, Cond.selects RX0 yX0_prepare yX0_prepare, Cond.initialized RX0, Cond.code yX0_prepare cX0_prepare 2 none, Cond.fieldLink RX0 11 "ParcelShelves$History" "rows" "[LParcelShelves$Shop;", Cond.fieldLink RX0 16 "ParcelShelves$History" "oldest" "I", Cond.fieldLink RX0 20 "ParcelShelves$History" "count" "I", Cond.methodLink RX0 23 yX1_copyFrom]
def wsX3_execute_r3 : List Cond := [Cond.instanceMethod yX1_copyFrom, Cond.selects RX1 yX1_copyFrom yX1_copyFrom, Cond.initialized RX1, Cond.code yX1_copyFrom cX1_copyFrom 2 none, Cond.fieldLink RX1 57 "ParcelShelves$Shop" "today" "I", Cond.fieldLink RX1 61 "ParcelShelves$Shop" "wrongCodes" "I", Cond.fieldLink RX1 64 "ParcelShelves$Shop" "cameSoFar" "I", Cond.fieldLink RX1 67 "ParcelShelves$Shop" "feesPaid" "I", Cond.fieldLink RX1 9 "ParcelShelves$Shop" "settings" "[I", Cond.methodLink RX1 45 arraycopyName, Cond.native arraycopyName, Cond.static arraycopyName, Cond.initialized "java/lang/System", Cond.fieldLink RX1 15 "ParcelShelves$Shop" "weekdays" "[I", Cond.fieldLink RX1 18 "ParcelShelves$Shop" "senders" "[I", Cond.fieldLink RX1 21 "ParcelShelves$Shop" "sizes" "[I", Cond.fieldLink RX1 24 "ParcelShelves$Shop" "cameOn" "[I", Cond.fieldLink RX1 27 "ParcelShelves$Shop" "leftOn" "[I", Cond.fieldLink RX1 30 "ParcelShelves$Shop" "bins" "[I", Cond.fieldLink RX1 33 "ParcelShelves$Shop" "charged" "[I", Cond.fieldLink RX1 36 "ParcelShelves$Shop" "fetched" "[I", Cond.fieldLink RX1 39 "ParcelShelves$Shop" "taken" "[I", Cond.methodLink RX3 205 yX2_isStartOfCommand, Cond.instanceMethod yX2_isStartOfCommand]
def wsX3_execute_r4 : List Cond := [Cond.selects RX2 yX2_isStartOfCommand yX2_isStartOfCommand, Cond.code yX2_isStartOfCommand cX2_isStartOfCommand 2 (some .boolean), Cond.methodLink RX3 208 yX3_executeCommand, Cond.instanceMethod yX3_executeCommand, Cond.selects RX3 yX3_executeCommand yX3_executeCommand, Cond.code yX3_executeCommand cX3_executeCommand 2 (some .int), Cond.methodLink RX3 248 yX2_signAt, Cond.methodLink RX3 252 yX2_numberAt, Cond.instanceMethod yX2_numberAt, Cond.selects RX2 yX2_numberAt yX2_numberAt, Cond.code yX2_numberAt cX2_numberAt 5 (some .int), Cond.methodLink RX3 255 yX2_sizeAt, Cond.instanceMethod yX2_sizeAt, Cond.selects RX2 yX2_sizeAt yX2_sizeAt, Cond.code yX2_sizeAt cX2_sizeAt 2 (some .int), Cond.methodLink RX3 67 yX3_letCome, Cond.instanceMethod yX3_letCome, Cond.selects RX3 yX3_letCome yX3_letCome, Cond.code yX3_letCome cX3_letCome 4 (some .int), Cond.fieldLink RX3 85 "ParcelShelves$Shop" "today" "I", Cond.fieldLink RX3 146 "ParcelShelves$Shop" "cameSoFar" "I", Cond.methodLink RX3 59 yX3_isWithin, Cond.methodLink RX3 177 yX3_firstShelfFor, Cond.static yX3_firstShelfFor]
def wsX3_execute_r5 : List Cond := [Cond.code yX3_firstShelfFor cX3_firstShelfFor 1 (some .int), Cond.methodLink RX3 180 yX1_placeToGive, Cond.instanceMethod yX1_placeToGive, Cond.selects RX1 yX1_placeToGive yX1_placeToGive, Cond.code yX1_placeToGive cX1_placeToGive 5 (some .int), Cond.methodLink RX1 88 yX1_isFree, Cond.instanceMethod yX1_isFree, Cond.selects RX1 yX1_isFree yX1_isFree, Cond.code yX1_isFree cX1_isFree 2 (some .boolean), Cond.methodLink RX1 91 yX1_restsToday, Cond.instanceMethod yX1_restsToday, Cond.selects RX1 yX1_restsToday yX1_restsToday, Cond.code yX1_restsToday cX1_restsToday 2 (some .boolean), Cond.static yX3_weekdayOf, Cond.code yX3_weekdayOf cX3_weekdayOf 1 (some .int), Cond.static yX3_indexFor, Cond.code yX3_indexFor cX3_indexFor 2 (some .int), Cond.methodLink RX1 81 yX1_rests, Cond.instanceMethod yX1_rests, Cond.selects RX1 yX1_rests yX1_rests, Cond.code yX1_rests cX1_rests 2 (some .boolean), Cond.methodLink RX3 227 yX3_refuseForNoPlace, Cond.instanceMethod yX3_refuseForNoPlace, Cond.selects RX3 yX3_refuseForNoPlace yX3_refuseForNoPlace]
def wsX3_execute_r6 : List Cond := [Cond.code yX3_refuseForNoPlace cX3_refuseForNoPlace 4 none, Cond.methodLink RX3 264 yX1_hasFreePlace, Cond.instanceMethod yX1_hasFreePlace, Cond.selects RX1 yX1_hasFreePlace yX1_hasFreePlace, Cond.code yX1_hasFreePlace cX1_hasFreePlace 5 (some .boolean), Cond.methodLink RX3 235 yX3_refuseFor, Cond.instanceMethod yX3_refuseFor, Cond.selects RX3 yX3_refuseFor yX3_refuseFor, Cond.code yX3_refuseFor cX3_refuseFor 3 none, Cond.fieldLink RX3 40 "ParcelShelves" "reason" "I", Cond.fieldLink RX3 44 "ParcelShelves" "behind" "I", Cond.methodLink RX3 231 yX1_put, Cond.instanceMethod yX1_put, Cond.selects RX1 yX1_put yX1_put, Cond.code yX1_put cX1_put 5 none, Cond.methodLink RX3 111 yX1_codeOn, Cond.instanceMethod yX1_codeOn, Cond.selects RX1 yX1_codeOn yX1_codeOn, Cond.code yX1_codeOn cX1_codeOn 2 (some .int), Cond.static yX3_codeFor, Cond.code yX3_codeFor cX3_codeFor 4 (some .int), Cond.methodLink RX3 267 yX3_checkDigit, Cond.static yX3_checkDigit, Cond.code yX3_checkDigit cX3_checkDigit 3 (some .int)]
def wsX3_execute_r7 : List Cond := [Cond.methodLink RX3 70 yX3_letFetch, Cond.instanceMethod yX3_letFetch, Cond.selects RX3 yX3_letFetch yX3_letFetch, Cond.code yX3_letFetch cX3_letFetch 4 (some .int), Cond.fieldLink RX3 152 "ParcelShelves$Shop" "wrongCodes" "I", Cond.fieldLink RX3 149 "ParcelShelves$Shop" "feesPaid" "I", Cond.fieldLink RX3 132 "ParcelShelves$Shop" "fetched" "[I", Cond.fieldLink RX3 91 "ParcelShelves$Shop" "senders" "[I", Cond.methodLink RX3 155 yX1_isLocked, Cond.instanceMethod yX1_isLocked, Cond.selects RX1 yX1_isLocked yX1_isLocked, Cond.code yX1_isLocked cX1_isLocked 1 (some .boolean), Cond.methodLink RX3 88 yX1_placeWith, Cond.instanceMethod yX1_placeWith, Cond.selects RX1 yX1_placeWith yX1_placeWith, Cond.code yX1_placeWith cX1_placeWith 4 (some .int), Cond.static yX3_indexOfCode, Cond.code yX3_indexOfCode cX3_indexOfCode 4 (some .int), Cond.methodLink RX3 103 yX3_isPlace, Cond.static yX3_isPlace, Cond.code yX3_isPlace cX3_isPlace 2 (some .boolean), Cond.methodLink RX3 271 yX3_indexFor, Cond.methodLink RX3 100 yX1_feeAfter, Cond.instanceMethod yX1_feeAfter]
def wsX3_execute_r8 : List Cond := [Cond.selects RX1 yX1_feeAfter yX1_feeAfter, Cond.code yX1_feeAfter cX1_feeAfter 5 (some .int), Cond.methodLink RX1 94 Lib.Math.max.name, Cond.static Lib.Math.max.name, Cond.initialized "java/lang/Math", Cond.code Lib.Math.max.name Lib.Math.max.code 2 (some .int), Cond.methodLink RX3 238 yX1_leave, Cond.instanceMethod yX1_leave, Cond.selects RX1 yX1_leave yX1_leave, Cond.code yX1_leave cX1_leave 2 none, Cond.methodLink RX3 73 yX3_letRefuse, Cond.instanceMethod yX3_letRefuse, Cond.selects RX3 yX3_letRefuse yX3_letRefuse, Cond.code yX3_letRefuse cX3_letRefuse 4 (some .int), Cond.fieldLink RX3 126 "ParcelShelves$Shop" "bins" "[I", Cond.methodLink RX3 242 yX3_refuseForNoParcel, Cond.instanceMethod yX3_refuseForNoParcel, Cond.selects RX3 yX3_refuseForNoParcel yX3_refuseForNoParcel, Cond.code yX3_refuseForNoParcel cX3_refuseForNoParcel 4 none, Cond.methodLink RX3 162 yX3_indexOfCode, Cond.methodLink RX3 171 yX1_rests, Cond.methodLink RX3 76 yX3_moveParcel, Cond.instanceMethod yX3_moveParcel, Cond.selects RX3 yX3_moveParcel yX3_moveParcel]
def wsX3_execute_r9 : List Cond := [Cond.code yX3_moveParcel cX3_moveParcel 5 (some .int), Cond.fieldLink RX3 94 "ParcelShelves$Shop" "sizes" "[I", Cond.fieldLink RX3 97 "ParcelShelves$Shop" "cameOn" "[I", Cond.methodLink RX3 114 yX3_sizeOfShelf, Cond.static yX3_sizeOfShelf, Cond.code yX3_sizeOfShelf cX3_sizeOfShelf 1 (some .int), Cond.methodLink RX3 258 yX2_endOfCommand, Cond.instanceMethod yX2_endOfCommand, Cond.selects RX2 yX2_endOfCommand yX2_endOfCommand, Cond.code yX2_endOfCommand cX2_endOfCommand 3 (some .int), Cond.methodLink RX3 79 yX3_letPass, Cond.instanceMethod yX3_letPass, Cond.selects RX3 yX3_letPass yX3_letPass, Cond.code yX3_letPass cX3_letPass 4 (some .int), Cond.methodLink RX3 186 yX1_beginDay, Cond.instanceMethod yX1_beginDay, Cond.selects RX1 yX1_beginDay yX1_beginDay, Cond.code yX1_beginDay cX1_beginDay 1 (some .int), Cond.methodLink RX1 99 yX1_letCourierCome, Cond.instanceMethod yX1_letCourierCome, Cond.selects RX1 yX1_letCourierCome yX1_letCourierCome, Cond.code yX1_letCourierCome cX1_letCourierCome 2 none, Cond.methodLink RX1 106 yX1_emptyBin, Cond.instanceMethod yX1_emptyBin]
def wsX3_execute_r10 : List Cond := [Cond.selects RX1 yX1_emptyBin yX1_emptyBin, Cond.code yX1_emptyBin cX1_emptyBin 4 (some .int), Cond.methodLink RX1 102 yX1_returnParcelsKeptTooLong, Cond.instanceMethod yX1_returnParcelsKeptTooLong, Cond.selects RX1 yX1_returnParcelsKeptTooLong yX1_returnParcelsKeptTooLong, Cond.code yX1_returnParcelsKeptTooLong cX1_returnParcelsKeptTooLong 3 (some .int), Cond.methodLink RX1 109 yX1_isKeptTooLong, Cond.instanceMethod yX1_isKeptTooLong, Cond.selects RX1 yX1_isKeptTooLong yX1_isKeptTooLong, Cond.code yX1_isKeptTooLong cX1_isKeptTooLong 2 (some .boolean), Cond.methodLink RX1 112 yX1_leave, Cond.methodLink RX3 211 yX3_isError, Cond.static yX3_isError, Cond.code yX3_isError cX3_isError 1 (some .boolean), Cond.methodLink RX3 196 yX2_empty, Cond.instanceMethod yX2_empty, Cond.selects RX2 yX2_empty yX2_empty, Cond.code yX2_empty cX2_empty 2 (some .int), Cond.methodLink RX3 55 yX3_recorded, Cond.instanceMethod yX3_recorded, Cond.selects RX3 yX3_recorded yX3_recorded, Cond.code yX3_recorded cX3_recorded 2 (some .int), Cond.methodLink RX3 261 yX0_keepPrepared, Cond.instanceMethod yX0_keepPrepared]
def wsX3_execute_r11 : List Cond := [Cond.selects RX0 yX0_keepPrepared yX0_keepPrepared, Cond.code yX0_keepPrepared cX0_keepPrepared 1 none]
def wsX3_execute : List Cond := .code yX3_execute cX3_execute 3 (some .int) :: ((wsX3_execute_r1 ++ (wsX3_execute_r2 ++ (wsX3_execute_r3 ++ (wsX3_execute_r4 ++ (wsX3_execute_r5 ++ (wsX3_execute_r6 ++ (wsX3_execute_r7 ++ (wsX3_execute_r8 ++ (wsX3_execute_r9 ++ (wsX3_execute_r10 ++ wsX3_execute_r11)))))))))) ++ wsX30 ++ wsX20 ++ wsX00 ++ wsX10)
def wsX3_undo_r1 : List Cond := [Cond.fieldLink RX3 25 "ParcelShelves" "history" "LParcelShelves$History;", Cond.fieldLink RX3 214 "ParcelShelves$History" "count" "I", Cond.fieldLink RX3 12 "ParcelShelves" "now" "LParcelShelves$Shop;", Cond.methodLink RX3 217 yX0_takeBack, Cond.instanceMethod yX0_takeBack, Cond.selects RX0 yX0_takeBack yX0_takeBack, Cond.initialized RX0, Cond.code yX0_takeBack cX0_takeBack 2 (some .int), Cond.fieldLink RX0 20 "ParcelShelves$History" "count" "I", Cond.fieldLink RX0 11 "ParcelShelves$History" "rows" "[LParcelShelves$Shop;", Cond.fieldLink RX0 16 "ParcelShelves$History" "oldest" "I", Cond.methodLink RX0 23 yX1_copyFrom, Cond.instanceMethod yX1_copyFrom, Cond.selects RX1 yX1_copyFrom yX1_copyFrom, Cond.initialized RX1, Cond.code yX1_copyFrom cX1_copyFrom 2 none, Cond.fieldLink RX1 57 "ParcelShelves$Shop" "today" "I", Cond.fieldLink RX1 61 "ParcelShelves$Shop" "wrongCodes" "I", Cond.fieldLink RX1 64 "ParcelShelves$Shop" "cameSoFar" "I", Cond.fieldLink RX1 67 "ParcelShelves$Shop" "feesPaid" "I", Cond.fieldLink RX1 9 "ParcelShelves$Shop" "settings" "[I", Cond.methodLink RX1 45 arraycopyName, Cond.native arraycopyName, Cond.static arraycopyName]
def wsX3_undo_r2 : List Cond := [Cond.initialized "java/lang/System", Cond.fieldLink RX1 15 "ParcelShelves$Shop" "weekdays" "[I", Cond.fieldLink RX1 18 "ParcelShelves$Shop" "senders" "[I", Cond.fieldLink RX1 21 "ParcelShelves$Shop" "sizes" "[I", Cond.fieldLink RX1 24 "ParcelShelves$Shop" "cameOn" "[I", Cond.fieldLink RX1 27 "ParcelShelves$Shop" "leftOn" "[I", Cond.fieldLink RX1 30 "ParcelShelves$Shop" "bins" "[I", Cond.fieldLink RX1 33 "ParcelShelves$Shop" "charged" "[I", Cond.fieldLink RX1 36 "ParcelShelves$Shop" "fetched" "[I", Cond.fieldLink RX1 39 "ParcelShelves$Shop" "taken" "[I"]
def wsX3_undo : List Cond := .code yX3_undo cX3_undo 1 (some .int) :: ((wsX3_undo_r1 ++ wsX3_undo_r2) ++ wsX30 ++ wsX00 ++ wsX10)
def wsX3_save_r1 : List Cond := [Cond.fieldLink RX3 16 "ParcelShelves" "saved" "LParcelShelves$Shop;", Cond.fieldLink RX3 12 "ParcelShelves" "now" "LParcelShelves$Shop;", Cond.fieldLink RX3 36 "ParcelShelves" "isSaved" "Z", Cond.methodLink RX3 183 yX1_copyFrom, Cond.instanceMethod yX1_copyFrom, Cond.selects RX1 yX1_copyFrom yX1_copyFrom, Cond.initialized RX1, Cond.code yX1_copyFrom cX1_copyFrom 2 none, Cond.fieldLink RX1 57 "ParcelShelves$Shop" "today" "I", Cond.fieldLink RX1 61 "ParcelShelves$Shop" "wrongCodes" "I", Cond.fieldLink RX1 64 "ParcelShelves$Shop" "cameSoFar" "I", Cond.fieldLink RX1 67 "ParcelShelves$Shop" "feesPaid" "I", Cond.fieldLink RX1 9 "ParcelShelves$Shop" "settings" "[I", Cond.methodLink RX1 45 arraycopyName, Cond.native arraycopyName, Cond.static arraycopyName, Cond.initialized "java/lang/System", Cond.fieldLink RX1 15 "ParcelShelves$Shop" "weekdays" "[I", Cond.fieldLink RX1 18 "ParcelShelves$Shop" "senders" "[I", Cond.fieldLink RX1 21 "ParcelShelves$Shop" "sizes" "[I", Cond.fieldLink RX1 24 "ParcelShelves$Shop" "cameOn" "[I", Cond.fieldLink RX1 27 "ParcelShelves$Shop" "leftOn" "[I", Cond.fieldLink RX1 30 "ParcelShelves$Shop" "bins" "[I", Cond.fieldLink RX1 33 "ParcelShelves$Shop" "charged" "[I"]
def wsX3_save_r2 : List Cond := [Cond.fieldLink RX1 36 "ParcelShelves$Shop" "fetched" "[I", Cond.fieldLink RX1 39 "ParcelShelves$Shop" "taken" "[I", Cond.methodLink RX3 138 yX1_parcelsOnShelves, Cond.instanceMethod yX1_parcelsOnShelves, Cond.selects RX1 yX1_parcelsOnShelves yX1_parcelsOnShelves, Cond.code yX1_parcelsOnShelves cX1_parcelsOnShelves 3 (some .int), Cond.methodLink RX1 116 yX1_parcelsOnShelf, Cond.instanceMethod yX1_parcelsOnShelf, Cond.selects RX1 yX1_parcelsOnShelf yX1_parcelsOnShelf, Cond.code yX1_parcelsOnShelf cX1_parcelsOnShelf 4 (some .int), Cond.methodLink RX1 88 yX1_isFree, Cond.instanceMethod yX1_isFree, Cond.selects RX1 yX1_isFree yX1_isFree, Cond.code yX1_isFree cX1_isFree 2 (some .boolean)]
def wsX3_save : List Cond := .code yX3_save cX3_save 1 (some .int) :: ((wsX3_save_r1 ++ wsX3_save_r2) ++ wsX30 ++ wsX10)
def wsX3_restore_r1 : List Cond := [Cond.fieldLink RX3 36 "ParcelShelves" "isSaved" "Z", Cond.fieldLink RX3 25 "ParcelShelves" "history" "LParcelShelves$History;", Cond.fieldLink RX3 12 "ParcelShelves" "now" "LParcelShelves$Shop;", Cond.fieldLink RX3 16 "ParcelShelves" "saved" "LParcelShelves$Shop;", Cond.methodLink RX3 47 yX0_prepare, Cond.instanceMethod yX0_prepare, Cond.selects RX0 yX0_prepare yX0_prepare, Cond.initialized RX0, Cond.code yX0_prepare cX0_prepare 2 none, Cond.fieldLink RX0 11 "ParcelShelves$History" "rows" "[LParcelShelves$Shop;", Cond.fieldLink RX0 16 "ParcelShelves$History" "oldest" "I", Cond.fieldLink RX0 20 "ParcelShelves$History" "count" "I", Cond.methodLink RX0 23 yX1_copyFrom, Cond.instanceMethod yX1_copyFrom, Cond.selects RX1 yX1_copyFrom yX1_copyFrom, Cond.initialized RX1, Cond.code yX1_copyFrom cX1_copyFrom 2 none, Cond.fieldLink RX1 57 "ParcelShelves$Shop" "today" "I", Cond.fieldLink RX1 61 "ParcelShelves$Shop" "wrongCodes" "I", Cond.fieldLink RX1 64 "ParcelShelves$Shop" "cameSoFar" "I", Cond.fieldLink RX1 67 "ParcelShelves$Shop" "feesPaid" "I", Cond.fieldLink RX1 9 "ParcelShelves$Shop" "settings" "[I", Cond.methodLink RX1 45 arraycopyName, Cond.native arraycopyName]
def wsX3_restore_r2 : List Cond := [Cond.static arraycopyName, Cond.initialized "java/lang/System", Cond.fieldLink RX1 15 "ParcelShelves$Shop" "weekdays" "[I", Cond.fieldLink RX1 18 "ParcelShelves$Shop" "senders" "[I", Cond.fieldLink RX1 21 "ParcelShelves$Shop" "sizes" "[I", Cond.fieldLink RX1 24 "ParcelShelves$Shop" "cameOn" "[I", Cond.fieldLink RX1 27 "ParcelShelves$Shop" "leftOn" "[I", Cond.fieldLink RX1 30 "ParcelShelves$Shop" "bins" "[I", Cond.fieldLink RX1 33 "ParcelShelves$Shop" "charged" "[I", Cond.fieldLink RX1 36 "ParcelShelves$Shop" "fetched" "[I", Cond.fieldLink RX1 39 "ParcelShelves$Shop" "taken" "[I", Cond.methodLink RX3 183 yX1_copyFrom, Cond.methodLink RX3 138 yX1_parcelsOnShelves, Cond.instanceMethod yX1_parcelsOnShelves, Cond.selects RX1 yX1_parcelsOnShelves yX1_parcelsOnShelves, Cond.code yX1_parcelsOnShelves cX1_parcelsOnShelves 3 (some .int), Cond.methodLink RX1 116 yX1_parcelsOnShelf, Cond.instanceMethod yX1_parcelsOnShelf, Cond.selects RX1 yX1_parcelsOnShelf yX1_parcelsOnShelf, Cond.code yX1_parcelsOnShelf cX1_parcelsOnShelf 4 (some .int), Cond.methodLink RX1 88 yX1_isFree, Cond.instanceMethod yX1_isFree, Cond.selects RX1 yX1_isFree yX1_isFree, Cond.code yX1_isFree cX1_isFree 2 (some .boolean)]
def wsX3_restore_r3 : List Cond := [Cond.methodLink RX3 55 yX3_recorded, Cond.instanceMethod yX3_recorded, Cond.selects RX3 yX3_recorded yX3_recorded, Cond.initialized RX3, Cond.code yX3_recorded cX3_recorded 2 (some .int), Cond.methodLink RX3 211 yX3_isError, Cond.static yX3_isError, Cond.code yX3_isError cX3_isError 1 (some .boolean), Cond.methodLink RX3 59 yX3_isWithin, Cond.static yX3_isWithin, Cond.code yX3_isWithin cX3_isWithin 3 (some .boolean), Cond.methodLink RX3 261 yX0_keepPrepared, Cond.instanceMethod yX0_keepPrepared, Cond.selects RX0 yX0_keepPrepared yX0_keepPrepared, Cond.code yX0_keepPrepared cX0_keepPrepared 1 none]
def wsX3_restore : List Cond := .code yX3_restore cX3_restore 1 (some .int) :: ((wsX3_restore_r1 ++ (wsX3_restore_r2 ++ wsX3_restore_r3)) ++ wsX30 ++ wsX00 ++ wsX10)
def wsX4_init : List Cond := .code yX4_init cX4_init 2 none :: ([.methodLink RX4 1 objectInit, .instanceMethod objectInit, .code objectInit ⟨#[0xb1]⟩ 1 none, .arrayClass .int, .fieldLink RX4 7 "ParcelShelvesModel" "z" "[I", .fieldLink RX4 13 "ParcelShelvesModel" "past" "[I", .fieldLink RX4 16 "ParcelShelvesModel" "kept" "[I", .fieldLink RX4 19 "ParcelShelvesModel" "aside" "[I", .fieldLink RX4 22 "ParcelShelvesModel" "reason" "I", .fieldLink RX4 26 "ParcelShelvesModel" "behind" "I", .arrayClass .char, .fieldLink RX4 29 "ParcelShelvesModel" "buffer" "[C", .fieldLink RX4 33 "ParcelShelvesModel" "told" "[I"] ++ wsX40)
def wsX4_in : List Cond := .code yX4_in cX4_in 3 (some .boolean) :: ([])
def wsX4_record : List Cond := .code yX4_record cX4_record 2 none :: ([.fieldLink RX4 36 "ParcelShelvesModel" "pastMany" "I", .fieldLink RX4 13 "ParcelShelvesModel" "past" "[I", .fieldLink RX4 7 "ParcelShelvesModel" "z" "[I"] ++ wsX40)
def wsX4_undo : List Cond := .code yX4_undo cX4_undo 2 (some .int) :: ([.fieldLink RX4 36 "ParcelShelvesModel" "pastMany" "I", .fieldLink RX4 7 "ParcelShelvesModel" "z" "[I", .fieldLink RX4 13 "ParcelShelvesModel" "past" "[I"] ++ wsX40)
def wsX4_at : List Cond := .code yX4_at cX4_at 3 (some .int) :: ([.fieldLink RX4 7 "ParcelShelvesModel" "z" "[I"] ++ wsX40)
def wsX4_isTaken : List Cond := .code yX4_isTaken cX4_isTaken 2 (some .boolean) :: ([.methodLink RX4 58 yX4_at, .instanceMethod yX4_at, .selects RX4 yX4_at yX4_at, .initialized RX4, .code yX4_at cX4_at 3 (some .int), .fieldLink RX4 7 "ParcelShelvesModel" "z" "[I"] ++ wsX40)
def wsX4_parcels : List Cond := .code yX4_parcels cX4_parcels 3 (some .int) :: ([.methodLink RX4 69 yX4_isTaken, .instanceMethod yX4_isTaken, .selects RX4 yX4_isTaken yX4_isTaken, .initialized RX4, .code yX4_isTaken cX4_isTaken 2 (some .boolean), .methodLink RX4 58 yX4_at, .instanceMethod yX4_at, .selects RX4 yX4_at yX4_at, .code yX4_at cX4_at 3 (some .int), .fieldLink RX4 7 "ParcelShelvesModel" "z" "[I"] ++ wsX40)
def wsX4_save : List Cond := .code yX4_save cX4_save 2 (some .int) :: ([.fieldLink RX4 39 "ParcelShelvesModel" "isKept" "Z", .fieldLink RX4 16 "ParcelShelvesModel" "kept" "[I", .fieldLink RX4 7 "ParcelShelvesModel" "z" "[I", .methodLink RX4 43 yX4_parcels, .instanceMethod yX4_parcels, .selects RX4 yX4_parcels yX4_parcels, .initialized RX4, .code yX4_parcels cX4_parcels 3 (some .int), .methodLink RX4 69 yX4_isTaken, .instanceMethod yX4_isTaken, .selects RX4 yX4_isTaken yX4_isTaken, .code yX4_isTaken cX4_isTaken 2 (some .boolean), .methodLink RX4 58 yX4_at, .instanceMethod yX4_at, .selects RX4 yX4_at yX4_at, .code yX4_at cX4_at 3 (some .int)] ++ wsX40)
def wsX4_restore : List Cond := .code yX4_restore cX4_restore 2 (some .int) :: ([.fieldLink RX4 39 "ParcelShelvesModel" "isKept" "Z", .fieldLink RX4 7 "ParcelShelvesModel" "z" "[I", .fieldLink RX4 16 "ParcelShelvesModel" "kept" "[I", .methodLink RX4 47 yX4_record, .instanceMethod yX4_record, .selects RX4 yX4_record yX4_record, .initialized RX4, .code yX4_record cX4_record 2 none, .fieldLink RX4 36 "ParcelShelvesModel" "pastMany" "I", .fieldLink RX4 13 "ParcelShelvesModel" "past" "[I", .methodLink RX4 43 yX4_parcels, .instanceMethod yX4_parcels, .selects RX4 yX4_parcels yX4_parcels, .code yX4_parcels cX4_parcels 3 (some .int), .methodLink RX4 69 yX4_isTaken, .instanceMethod yX4_isTaken, .selects RX4 yX4_isTaken yX4_isTaken, .code yX4_isTaken cX4_isTaken 2 (some .boolean), .methodLink RX4 58 yX4_at, .instanceMethod yX4_at, .selects RX4 yX4_at yX4_at, .code yX4_at cX4_at 3 (some .int)] ++ wsX40)
def wsX4_putAside : List Cond := .code yX4_putAside cX4_putAside 2 none :: ([.fieldLink RX4 19 "ParcelShelvesModel" "aside" "[I", .fieldLink RX4 7 "ParcelShelvesModel" "z" "[I"] ++ wsX40)
def wsX4_takeBack : List Cond := .code yX4_takeBack cX4_takeBack 2 none :: ([.fieldLink RX4 7 "ParcelShelvesModel" "z" "[I", .fieldLink RX4 19 "ParcelShelvesModel" "aside" "[I"] ++ wsX40)
def wsX4_isInRange : List Cond := .code yX4_isInRange cX4_isInRange 2 (some .boolean) :: ([.methodLink RX4 50 yX4_in, .static yX4_in, .initialized RX4, .code yX4_in cX4_in 3 (some .boolean)])
def wsX4_set : List Cond := .code yX4_set cX4_set 4 (some .int) :: ([.fieldLink RX4 7 "ParcelShelvesModel" "z" "[I", .methodLink RX4 54 yX4_isInRange, .static yX4_isInRange, .initialized RX4, .code yX4_isInRange cX4_isInRange 2 (some .boolean), .methodLink RX4 50 yX4_in, .static yX4_in, .code yX4_in cX4_in 3 (some .boolean), .methodLink RX4 47 yX4_record, .instanceMethod yX4_record, .selects RX4 yX4_record yX4_record, .code yX4_record cX4_record 2 none, .fieldLink RX4 36 "ParcelShelvesModel" "pastMany" "I", .fieldLink RX4 13 "ParcelShelvesModel" "past" "[I"] ++ wsX40)
def wsX4_setting : List Cond := .code yX4_setting cX4_setting 2 (some .int) :: ([.fieldLink RX4 7 "ParcelShelvesModel" "z" "[I", .methodLink RX4 50 yX4_in, .static yX4_in, .initialized RX4, .code yX4_in cX4_in 3 (some .boolean)] ++ wsX40)
def wsX4_weekday : List Cond := .code yX4_weekday cX4_weekday 1 (some .int) :: ([])
def wsX4_codeBy : List Cond := .code yX4_codeBy cX4_codeBy 3 (some .int) :: ([])
def wsX4_indexOf : List Cond := .code yX4_indexOf cX4_indexOf 5 (some .int) :: ([.methodLink RX4 50 yX4_in, .static yX4_in, .initialized RX4, .code yX4_in cX4_in 3 (some .boolean), .methodLink RX4 62 yX4_codeBy, .static yX4_codeBy, .code yX4_codeBy cX4_codeBy 3 (some .int)])
def wsX4_codeOn : List Cond := .code yX4_codeOn cX4_codeOn 2 (some .int) :: ([.methodLink RX4 58 yX4_at, .instanceMethod yX4_at, .selects RX4 yX4_at yX4_at, .initialized RX4, .code yX4_at cX4_at 3 (some .int), .fieldLink RX4 7 "ParcelShelvesModel" "z" "[I", .methodLink RX4 62 yX4_codeBy, .static yX4_codeBy, .code yX4_codeBy cX4_codeBy 3 (some .int)] ++ wsX40)
def wsX4_placeBy : List Cond := .code yX4_placeBy cX4_placeBy 4 (some .int) :: ([.methodLink RX4 65 yX4_indexOf, .static yX4_indexOf, .initialized RX4, .code yX4_indexOf cX4_indexOf 5 (some .int), .methodLink RX4 50 yX4_in, .static yX4_in, .code yX4_in cX4_in 3 (some .boolean), .methodLink RX4 62 yX4_codeBy, .static yX4_codeBy, .code yX4_codeBy cX4_codeBy 3 (some .int), .methodLink RX4 69 yX4_isTaken, .instanceMethod yX4_isTaken, .selects RX4 yX4_isTaken yX4_isTaken, .code yX4_isTaken cX4_isTaken 2 (some .boolean), .methodLink RX4 58 yX4_at, .instanceMethod yX4_at, .selects RX4 yX4_at yX4_at, .code yX4_at cX4_at 3 (some .int), .fieldLink RX4 7 "ParcelShelvesModel" "z" "[I"] ++ wsX40)
def wsX4_restsOf : List Cond := .code yX4_restsOf cX4_restsOf 3 (some .int) :: ([.fieldLink RX4 7 "ParcelShelvesModel" "z" "[I"] ++ wsX40)
def wsX4_rests : List Cond := .code yX4_rests cX4_rests 2 (some .boolean) :: ([.fieldLink RX4 7 "ParcelShelvesModel" "z" "[I", .methodLink RX4 73 yX4_weekday, .static yX4_weekday, .initialized RX4, .code yX4_weekday cX4_weekday 1 (some .int), .methodLink RX4 76 yX4_restsOf, .instanceMethod yX4_restsOf, .selects RX4 yX4_restsOf yX4_restsOf, .code yX4_restsOf cX4_restsOf 3 (some .int)] ++ wsX40)
def wsX4_firstPlace : List Cond := .code yX4_firstPlace cX4_firstPlace 4 (some .int) :: ([.methodLink RX4 69 yX4_isTaken, .instanceMethod yX4_isTaken, .selects RX4 yX4_isTaken yX4_isTaken, .initialized RX4, .code yX4_isTaken cX4_isTaken 2 (some .boolean), .methodLink RX4 58 yX4_at, .instanceMethod yX4_at, .selects RX4 yX4_at yX4_at, .code yX4_at cX4_at 3 (some .int), .fieldLink RX4 7 "ParcelShelvesModel" "z" "[I", .methodLink RX4 79 yX4_rests, .instanceMethod yX4_rests, .selects RX4 yX4_rests yX4_rests, .code yX4_rests cX4_rests 2 (some .boolean), .methodLink RX4 73 yX4_weekday, .static yX4_weekday, .code yX4_weekday cX4_weekday 1 (some .int), .methodLink RX4 76 yX4_restsOf, .instanceMethod yX4_restsOf, .selects RX4 yX4_restsOf yX4_restsOf, .code yX4_restsOf cX4_restsOf 3 (some .int)] ++ wsX40)
def wsX4_refuseBy : List Cond := .code yX4_refuseBy cX4_refuseBy 4 (some .int) :: ([.fieldLink RX4 22 "ParcelShelvesModel" "reason" "I", .fieldLink RX4 26 "ParcelShelvesModel" "behind" "I"] ++ wsX40)
def wsX4_refusePlace : List Cond := .code yX4_refusePlace cX4_refusePlace 5 (some .int) :: ([.methodLink RX4 69 yX4_isTaken, .instanceMethod yX4_isTaken, .selects RX4 yX4_isTaken yX4_isTaken, .initialized RX4, .code yX4_isTaken cX4_isTaken 2 (some .boolean), .methodLink RX4 58 yX4_at, .instanceMethod yX4_at, .selects RX4 yX4_at yX4_at, .code yX4_at cX4_at 3 (some .int), .fieldLink RX4 7 "ParcelShelvesModel" "z" "[I", .methodLink RX4 82 yX4_refuseBy, .instanceMethod yX4_refuseBy, .selects RX4 yX4_refuseBy yX4_refuseBy, .code yX4_refuseBy cX4_refuseBy 4 (some .int), .fieldLink RX4 22 "ParcelShelvesModel" "reason" "I", .fieldLink RX4 26 "ParcelShelvesModel" "behind" "I"] ++ wsX40)
def wsX4_refuseCode : List Cond := .code yX4_refuseCode cX4_refuseCode 2 (some .int) :: ([.methodLink RX4 65 yX4_indexOf, .static yX4_indexOf, .initialized RX4, .code yX4_indexOf cX4_indexOf 5 (some .int), .methodLink RX4 50 yX4_in, .static yX4_in, .code yX4_in cX4_in 3 (some .boolean), .methodLink RX4 62 yX4_codeBy, .static yX4_codeBy, .code yX4_codeBy cX4_codeBy 3 (some .int), .methodLink RX4 76 yX4_restsOf, .instanceMethod yX4_restsOf, .selects RX4 yX4_restsOf yX4_restsOf, .code yX4_restsOf cX4_restsOf 3 (some .int), .fieldLink RX4 7 "ParcelShelvesModel" "z" "[I", .methodLink RX4 82 yX4_refuseBy, .instanceMethod yX4_refuseBy, .selects RX4 yX4_refuseBy yX4_refuseBy, .code yX4_refuseBy cX4_refuseBy 4 (some .int), .fieldLink RX4 22 "ParcelShelvesModel" "reason" "I", .fieldLink RX4 26 "ParcelShelvesModel" "behind" "I"] ++ wsX40)
def wsX4_lay : List Cond := .code yX4_lay cX4_lay 6 none :: ([.fieldLink RX4 7 "ParcelShelvesModel" "z" "[I", .methodLink RX4 73 yX4_weekday, .static yX4_weekday, .initialized RX4, .code yX4_weekday cX4_weekday 1 (some .int)] ++ wsX40)
def wsX4_leave : List Cond := .code yX4_leave cX4_leave 2 none :: ([.fieldLink RX4 7 "ParcelShelvesModel" "z" "[I", .methodLink RX4 58 yX4_at, .instanceMethod yX4_at, .selects RX4 yX4_at yX4_at, .initialized RX4, .code yX4_at cX4_at 3 (some .int)] ++ wsX40)
def wsX4_isSender : List Cond := .code yX4_isSender cX4_isSender 1 (some .boolean) :: ([.methodLink RX4 50 yX4_in, .static yX4_in, .initialized RX4, .code yX4_in cX4_in 3 (some .boolean)])
def wsX4_ofSender : List Cond := .code yX4_ofSender cX4_ofSender 3 (some .int) :: ([.fieldLink RX4 7 "ParcelShelvesModel" "z" "[I"] ++ wsX40)
def wsX4_count : List Cond := .code yX4_count cX4_count 4 none :: ([.fieldLink RX4 7 "ParcelShelvesModel" "z" "[I"] ++ wsX40)
def wsX4_whyNotCome_r1 : List Cond := [Cond.methodLink RX4 86 yX4_isSender, Cond.static yX4_isSender, Cond.initialized RX4, Cond.code yX4_isSender cX4_isSender 1 (some .boolean), Cond.methodLink RX4 50 yX4_in, Cond.static yX4_in, Cond.code yX4_in cX4_in 3 (some .boolean), Cond.methodLink RX4 89 yX4_firstPlace, Cond.instanceMethod yX4_firstPlace, Cond.selects RX4 yX4_firstPlace yX4_firstPlace, Cond.code yX4_firstPlace cX4_firstPlace 4 (some .int), Cond.methodLink RX4 69 yX4_isTaken, Cond.instanceMethod yX4_isTaken, Cond.selects RX4 yX4_isTaken yX4_isTaken, Cond.code yX4_isTaken cX4_isTaken 2 (some .boolean), Cond.methodLink RX4 58 yX4_at, Cond.instanceMethod yX4_at, Cond.selects RX4 yX4_at yX4_at, Cond.code yX4_at cX4_at 3 (some .int), Cond.fieldLink RX4 7 "ParcelShelvesModel" "z" "[I", Cond.methodLink RX4 79 yX4_rests, Cond.instanceMethod yX4_rests, Cond.selects RX4 yX4_rests yX4_rests, Cond.code yX4_rests cX4_rests 2 (some .boolean)]
def wsX4_whyNotCome_r2 : List Cond := [Cond.methodLink RX4 73 yX4_weekday, Cond.static yX4_weekday, Cond.code yX4_weekday cX4_weekday 1 (some .int), Cond.methodLink RX4 76 yX4_restsOf, Cond.instanceMethod yX4_restsOf, Cond.selects RX4 yX4_restsOf yX4_restsOf, Cond.code yX4_restsOf cX4_restsOf 3 (some .int), Cond.methodLink RX4 92 yX4_refusePlace, Cond.instanceMethod yX4_refusePlace, Cond.selects RX4 yX4_refusePlace yX4_refusePlace, Cond.code yX4_refusePlace cX4_refusePlace 5 (some .int), Cond.methodLink RX4 82 yX4_refuseBy, Cond.instanceMethod yX4_refuseBy, Cond.selects RX4 yX4_refuseBy yX4_refuseBy, Cond.code yX4_refuseBy cX4_refuseBy 4 (some .int), Cond.fieldLink RX4 22 "ParcelShelvesModel" "reason" "I", Cond.fieldLink RX4 26 "ParcelShelvesModel" "behind" "I"]
def wsX4_whyNotCome : List Cond := .code yX4_whyNotCome cX4_whyNotCome 3 (some .int) :: ((wsX4_whyNotCome_r1 ++ wsX4_whyNotCome_r2) ++ wsX40)
def wsX4_comes_r1 : List Cond := [Cond.fieldLink RX4 7 "ParcelShelvesModel" "z" "[I", Cond.methodLink RX4 89 yX4_firstPlace, Cond.instanceMethod yX4_firstPlace, Cond.selects RX4 yX4_firstPlace yX4_firstPlace, Cond.initialized RX4, Cond.code yX4_firstPlace cX4_firstPlace 4 (some .int), Cond.methodLink RX4 69 yX4_isTaken, Cond.instanceMethod yX4_isTaken, Cond.selects RX4 yX4_isTaken yX4_isTaken, Cond.code yX4_isTaken cX4_isTaken 2 (some .boolean), Cond.methodLink RX4 58 yX4_at, Cond.instanceMethod yX4_at, Cond.selects RX4 yX4_at yX4_at, Cond.code yX4_at cX4_at 3 (some .int), Cond.methodLink RX4 79 yX4_rests, Cond.instanceMethod yX4_rests, Cond.selects RX4 yX4_rests yX4_rests, Cond.code yX4_rests cX4_rests 2 (some .boolean), Cond.methodLink RX4 73 yX4_weekday, Cond.static yX4_weekday, Cond.code yX4_weekday cX4_weekday 1 (some .int), Cond.methodLink RX4 76 yX4_restsOf, Cond.instanceMethod yX4_restsOf, Cond.selects RX4 yX4_restsOf yX4_restsOf]
def wsX4_comes_r2 : List Cond := [Cond.code yX4_restsOf cX4_restsOf 3 (some .int), Cond.methodLink RX4 95 yX4_lay, Cond.instanceMethod yX4_lay, Cond.selects RX4 yX4_lay yX4_lay, Cond.code yX4_lay cX4_lay 6 none, Cond.methodLink RX4 99 yX4_codeOn, Cond.instanceMethod yX4_codeOn, Cond.selects RX4 yX4_codeOn yX4_codeOn, Cond.code yX4_codeOn cX4_codeOn 2 (some .int), Cond.methodLink RX4 62 yX4_codeBy, Cond.static yX4_codeBy, Cond.code yX4_codeBy cX4_codeBy 3 (some .int)]
def wsX4_comes : List Cond := .code yX4_comes cX4_comes 4 (some .int) :: ((wsX4_comes_r1 ++ wsX4_comes_r2) ++ wsX40)
def wsX4_come_r1 : List Cond := [Cond.methodLink RX4 102 yX4_whyNotCome, Cond.instanceMethod yX4_whyNotCome, Cond.selects RX4 yX4_whyNotCome yX4_whyNotCome, Cond.initialized RX4, Cond.code yX4_whyNotCome cX4_whyNotCome 3 (some .int), Cond.methodLink RX4 86 yX4_isSender, Cond.static yX4_isSender, Cond.code yX4_isSender cX4_isSender 1 (some .boolean), Cond.methodLink RX4 50 yX4_in, Cond.static yX4_in, Cond.code yX4_in cX4_in 3 (some .boolean), Cond.methodLink RX4 89 yX4_firstPlace, Cond.instanceMethod yX4_firstPlace, Cond.selects RX4 yX4_firstPlace yX4_firstPlace, Cond.code yX4_firstPlace cX4_firstPlace 4 (some .int), Cond.methodLink RX4 69 yX4_isTaken, Cond.instanceMethod yX4_isTaken, Cond.selects RX4 yX4_isTaken yX4_isTaken, Cond.code yX4_isTaken cX4_isTaken 2 (some .boolean), Cond.methodLink RX4 58 yX4_at, Cond.instanceMethod yX4_at, Cond.selects RX4 yX4_at yX4_at, Cond.code yX4_at cX4_at 3 (some .int), Cond.fieldLink RX4 7 "ParcelShelvesModel" "z" "[I"]
def wsX4_come_r2 : List Cond := [Cond.methodLink RX4 79 yX4_rests, Cond.instanceMethod yX4_rests, Cond.selects RX4 yX4_rests yX4_rests, Cond.code yX4_rests cX4_rests 2 (some .boolean), Cond.methodLink RX4 73 yX4_weekday, Cond.static yX4_weekday, Cond.code yX4_weekday cX4_weekday 1 (some .int), Cond.methodLink RX4 76 yX4_restsOf, Cond.instanceMethod yX4_restsOf, Cond.selects RX4 yX4_restsOf yX4_restsOf, Cond.code yX4_restsOf cX4_restsOf 3 (some .int), Cond.methodLink RX4 92 yX4_refusePlace, Cond.instanceMethod yX4_refusePlace, Cond.selects RX4 yX4_refusePlace yX4_refusePlace, Cond.code yX4_refusePlace cX4_refusePlace 5 (some .int), Cond.methodLink RX4 82 yX4_refuseBy, Cond.instanceMethod yX4_refuseBy, Cond.selects RX4 yX4_refuseBy yX4_refuseBy, Cond.code yX4_refuseBy cX4_refuseBy 4 (some .int), Cond.fieldLink RX4 22 "ParcelShelvesModel" "reason" "I", Cond.fieldLink RX4 26 "ParcelShelvesModel" "behind" "I", Cond.methodLink RX4 47 yX4_record, Cond.instanceMethod yX4_record, Cond.selects RX4 yX4_record yX4_record]
def wsX4_come_r3 : List Cond := [Cond.code yX4_record cX4_record 2 none, Cond.fieldLink RX4 36 "ParcelShelvesModel" "pastMany" "I", Cond.fieldLink RX4 13 "ParcelShelvesModel" "past" "[I", Cond.methodLink RX4 105 yX4_comes, Cond.instanceMethod yX4_comes, Cond.selects RX4 yX4_comes yX4_comes, Cond.code yX4_comes cX4_comes 4 (some .int), Cond.methodLink RX4 95 yX4_lay, Cond.instanceMethod yX4_lay, Cond.selects RX4 yX4_lay yX4_lay, Cond.code yX4_lay cX4_lay 6 none, Cond.methodLink RX4 99 yX4_codeOn, Cond.instanceMethod yX4_codeOn, Cond.selects RX4 yX4_codeOn yX4_codeOn, Cond.code yX4_codeOn cX4_codeOn 2 (some .int), Cond.methodLink RX4 62 yX4_codeBy, Cond.static yX4_codeBy, Cond.code yX4_codeBy cX4_codeBy 3 (some .int)]
def wsX4_come : List Cond := .code yX4_come cX4_come 4 (some .int) :: ((wsX4_come_r1 ++ (wsX4_come_r2 ++ wsX4_come_r3)) ++ wsX40)
def wsX4_feeOn : List Cond := .code yX4_feeOn cX4_feeOn 4 (some .int) :: ([.fieldLink RX4 7 "ParcelShelvesModel" "z" "[I", .methodLink RX4 58 yX4_at, .instanceMethod yX4_at, .selects RX4 yX4_at yX4_at, .initialized RX4, .code yX4_at cX4_at 3 (some .int)] ++ wsX40)
def wsX4_isLocked : List Cond := .code yX4_isLocked cX4_isLocked 1 (some .boolean) :: ([.fieldLink RX4 7 "ParcelShelvesModel" "z" "[I"] ++ wsX40)
def wsX4_whyNotFetch : List Cond := .code yX4_whyNotFetch cX4_whyNotFetch 2 (some .int) :: ([.methodLink RX4 50 yX4_in, .static yX4_in, .initialized RX4, .code yX4_in cX4_in 3 (some .boolean), .methodLink RX4 108 yX4_isLocked, .instanceMethod yX4_isLocked, .selects RX4 yX4_isLocked yX4_isLocked, .code yX4_isLocked cX4_isLocked 1 (some .boolean), .fieldLink RX4 7 "ParcelShelvesModel" "z" "[I", .methodLink RX4 82 yX4_refuseBy, .instanceMethod yX4_refuseBy, .selects RX4 yX4_refuseBy yX4_refuseBy, .code yX4_refuseBy cX4_refuseBy 4 (some .int), .fieldLink RX4 22 "ParcelShelvesModel" "reason" "I", .fieldLink RX4 26 "ParcelShelvesModel" "behind" "I"] ++ wsX40)
def wsX4_fetches_r1 : List Cond := [Cond.fieldLink RX4 7 "ParcelShelvesModel" "z" "[I", Cond.methodLink RX4 112 yX4_placeBy, Cond.instanceMethod yX4_placeBy, Cond.selects RX4 yX4_placeBy yX4_placeBy, Cond.initialized RX4, Cond.code yX4_placeBy cX4_placeBy 4 (some .int), Cond.methodLink RX4 65 yX4_indexOf, Cond.static yX4_indexOf, Cond.code yX4_indexOf cX4_indexOf 5 (some .int), Cond.methodLink RX4 50 yX4_in, Cond.static yX4_in, Cond.code yX4_in cX4_in 3 (some .boolean), Cond.methodLink RX4 62 yX4_codeBy, Cond.static yX4_codeBy, Cond.code yX4_codeBy cX4_codeBy 3 (some .int), Cond.methodLink RX4 69 yX4_isTaken, Cond.instanceMethod yX4_isTaken, Cond.selects RX4 yX4_isTaken yX4_isTaken, Cond.code yX4_isTaken cX4_isTaken 2 (some .boolean), Cond.methodLink RX4 58 yX4_at, Cond.instanceMethod yX4_at, Cond.selects RX4 yX4_at yX4_at, Cond.code yX4_at cX4_at 3 (some .int), Cond.methodLink RX4 115 yX4_feeOn]
def wsX4_fetches_r2 : List Cond := [Cond.instanceMethod yX4_feeOn, Cond.selects RX4 yX4_feeOn yX4_feeOn, Cond.code yX4_feeOn cX4_feeOn 4 (some .int), Cond.methodLink RX4 118 yX4_count, Cond.instanceMethod yX4_count, Cond.selects RX4 yX4_count yX4_count, Cond.code yX4_count cX4_count 4 none, Cond.methodLink RX4 122 yX4_leave, Cond.instanceMethod yX4_leave, Cond.selects RX4 yX4_leave yX4_leave, Cond.code yX4_leave cX4_leave 2 none]
def wsX4_fetches : List Cond := .code yX4_fetches cX4_fetches 4 (some .int) :: ((wsX4_fetches_r1 ++ wsX4_fetches_r2) ++ wsX40)
def wsX4_fetch_r1 : List Cond := [Cond.methodLink RX4 126 yX4_whyNotFetch, Cond.instanceMethod yX4_whyNotFetch, Cond.selects RX4 yX4_whyNotFetch yX4_whyNotFetch, Cond.initialized RX4, Cond.code yX4_whyNotFetch cX4_whyNotFetch 2 (some .int), Cond.methodLink RX4 50 yX4_in, Cond.static yX4_in, Cond.code yX4_in cX4_in 3 (some .boolean), Cond.methodLink RX4 108 yX4_isLocked, Cond.instanceMethod yX4_isLocked, Cond.selects RX4 yX4_isLocked yX4_isLocked, Cond.code yX4_isLocked cX4_isLocked 1 (some .boolean), Cond.fieldLink RX4 7 "ParcelShelvesModel" "z" "[I", Cond.methodLink RX4 82 yX4_refuseBy, Cond.instanceMethod yX4_refuseBy, Cond.selects RX4 yX4_refuseBy yX4_refuseBy, Cond.code yX4_refuseBy cX4_refuseBy 4 (some .int), Cond.fieldLink RX4 22 "ParcelShelvesModel" "reason" "I", Cond.fieldLink RX4 26 "ParcelShelvesModel" "behind" "I", Cond.methodLink RX4 47 yX4_record, Cond.instanceMethod yX4_record, Cond.selects RX4 yX4_record yX4_record, Cond.code yX4_record cX4_record 2 none, Cond.fieldLink RX4 36 "ParcelShelvesModel" "pastMany" "I"]
def wsX4_fetch_r2 : List Cond := [Cond.fieldLink RX4 13 "ParcelShelvesModel" "past" "[I", Cond.methodLink RX4 129 yX4_fetches, Cond.instanceMethod yX4_fetches, Cond.selects RX4 yX4_fetches yX4_fetches, Cond.code yX4_fetches cX4_fetches 4 (some .int), Cond.methodLink RX4 112 yX4_placeBy, Cond.instanceMethod yX4_placeBy, Cond.selects RX4 yX4_placeBy yX4_placeBy, Cond.code yX4_placeBy cX4_placeBy 4 (some .int), Cond.methodLink RX4 65 yX4_indexOf, Cond.static yX4_indexOf, Cond.code yX4_indexOf cX4_indexOf 5 (some .int), Cond.methodLink RX4 62 yX4_codeBy, Cond.static yX4_codeBy, Cond.code yX4_codeBy cX4_codeBy 3 (some .int), Cond.methodLink RX4 69 yX4_isTaken, Cond.instanceMethod yX4_isTaken, Cond.selects RX4 yX4_isTaken yX4_isTaken, Cond.code yX4_isTaken cX4_isTaken 2 (some .boolean), Cond.methodLink RX4 58 yX4_at, Cond.instanceMethod yX4_at, Cond.selects RX4 yX4_at yX4_at, Cond.code yX4_at cX4_at 3 (some .int), Cond.methodLink RX4 115 yX4_feeOn]
def wsX4_fetch_r3 : List Cond := [Cond.instanceMethod yX4_feeOn, Cond.selects RX4 yX4_feeOn yX4_feeOn, Cond.code yX4_feeOn cX4_feeOn 4 (some .int), Cond.methodLink RX4 118 yX4_count, Cond.instanceMethod yX4_count, Cond.selects RX4 yX4_count yX4_count, Cond.code yX4_count cX4_count 4 none, Cond.methodLink RX4 122 yX4_leave, Cond.instanceMethod yX4_leave, Cond.selects RX4 yX4_leave yX4_leave, Cond.code yX4_leave cX4_leave 2 none]
def wsX4_fetch : List Cond := .code yX4_fetch cX4_fetch 3 (some .int) :: ((wsX4_fetch_r1 ++ (wsX4_fetch_r2 ++ wsX4_fetch_r3)) ++ wsX40)
def wsX4_whyNotRefuse_r1 : List Cond := [Cond.methodLink RX4 112 yX4_placeBy, Cond.instanceMethod yX4_placeBy, Cond.selects RX4 yX4_placeBy yX4_placeBy, Cond.initialized RX4, Cond.code yX4_placeBy cX4_placeBy 4 (some .int), Cond.methodLink RX4 65 yX4_indexOf, Cond.static yX4_indexOf, Cond.code yX4_indexOf cX4_indexOf 5 (some .int), Cond.methodLink RX4 50 yX4_in, Cond.static yX4_in, Cond.code yX4_in cX4_in 3 (some .boolean), Cond.methodLink RX4 62 yX4_codeBy, Cond.static yX4_codeBy, Cond.code yX4_codeBy cX4_codeBy 3 (some .int), Cond.methodLink RX4 69 yX4_isTaken, Cond.instanceMethod yX4_isTaken, Cond.selects RX4 yX4_isTaken yX4_isTaken, Cond.code yX4_isTaken cX4_isTaken 2 (some .boolean), Cond.methodLink RX4 58 yX4_at, Cond.instanceMethod yX4_at, Cond.selects RX4 yX4_at yX4_at, Cond.code yX4_at cX4_at 3 (some .int), Cond.fieldLink RX4 7 "ParcelShelvesModel" "z" "[I", Cond.methodLink RX4 132 yX4_refuseCode]
def wsX4_whyNotRefuse_r2 : List Cond := [Cond.instanceMethod yX4_refuseCode, Cond.selects RX4 yX4_refuseCode yX4_refuseCode, Cond.code yX4_refuseCode cX4_refuseCode 2 (some .int), Cond.methodLink RX4 76 yX4_restsOf, Cond.instanceMethod yX4_restsOf, Cond.selects RX4 yX4_restsOf yX4_restsOf, Cond.code yX4_restsOf cX4_restsOf 3 (some .int), Cond.methodLink RX4 82 yX4_refuseBy, Cond.instanceMethod yX4_refuseBy, Cond.selects RX4 yX4_refuseBy yX4_refuseBy, Cond.code yX4_refuseBy cX4_refuseBy 4 (some .int), Cond.fieldLink RX4 22 "ParcelShelvesModel" "reason" "I", Cond.fieldLink RX4 26 "ParcelShelvesModel" "behind" "I", Cond.methodLink RX4 135 yX4_ofSender, Cond.instanceMethod yX4_ofSender, Cond.selects RX4 yX4_ofSender yX4_ofSender, Cond.code yX4_ofSender cX4_ofSender 3 (some .int)]
def wsX4_whyNotRefuse : List Cond := .code yX4_whyNotRefuse cX4_whyNotRefuse 3 (some .int) :: ((wsX4_whyNotRefuse_r1 ++ wsX4_whyNotRefuse_r2) ++ wsX40)
def wsX4_goesBack : List Cond := .code yX4_goesBack cX4_goesBack 3 (some .int) :: ([.methodLink RX4 58 yX4_at, .instanceMethod yX4_at, .selects RX4 yX4_at yX4_at, .initialized RX4, .code yX4_at cX4_at 3 (some .int), .fieldLink RX4 7 "ParcelShelvesModel" "z" "[I", .methodLink RX4 118 yX4_count, .instanceMethod yX4_count, .selects RX4 yX4_count yX4_count, .code yX4_count cX4_count 4 none, .methodLink RX4 122 yX4_leave, .instanceMethod yX4_leave, .selects RX4 yX4_leave yX4_leave, .code yX4_leave cX4_leave 2 none, .methodLink RX4 135 yX4_ofSender, .instanceMethod yX4_ofSender, .selects RX4 yX4_ofSender yX4_ofSender, .code yX4_ofSender cX4_ofSender 3 (some .int)] ++ wsX40)
def wsX4_refuse_r1 : List Cond := [Cond.methodLink RX4 138 yX4_whyNotRefuse, Cond.instanceMethod yX4_whyNotRefuse, Cond.selects RX4 yX4_whyNotRefuse yX4_whyNotRefuse, Cond.initialized RX4, Cond.code yX4_whyNotRefuse cX4_whyNotRefuse 3 (some .int), Cond.methodLink RX4 112 yX4_placeBy, Cond.instanceMethod yX4_placeBy, Cond.selects RX4 yX4_placeBy yX4_placeBy, Cond.code yX4_placeBy cX4_placeBy 4 (some .int), Cond.methodLink RX4 65 yX4_indexOf, Cond.static yX4_indexOf, Cond.code yX4_indexOf cX4_indexOf 5 (some .int), Cond.methodLink RX4 50 yX4_in, Cond.static yX4_in, Cond.code yX4_in cX4_in 3 (some .boolean), Cond.methodLink RX4 62 yX4_codeBy, Cond.static yX4_codeBy, Cond.code yX4_codeBy cX4_codeBy 3 (some .int), Cond.methodLink RX4 69 yX4_isTaken, Cond.instanceMethod yX4_isTaken, Cond.selects RX4 yX4_isTaken yX4_isTaken, Cond.code yX4_isTaken cX4_isTaken 2 (some .boolean), Cond.methodLink RX4 58 yX4_at, Cond.instanceMethod yX4_at]
def wsX4_refuse_r2 : List Cond := [Cond.selects RX4 yX4_at yX4_at, Cond.code yX4_at cX4_at 3 (some .int), Cond.fieldLink RX4 7 "ParcelShelvesModel" "z" "[I", Cond.methodLink RX4 132 yX4_refuseCode, Cond.instanceMethod yX4_refuseCode, Cond.selects RX4 yX4_refuseCode yX4_refuseCode, Cond.code yX4_refuseCode cX4_refuseCode 2 (some .int), Cond.methodLink RX4 76 yX4_restsOf, Cond.instanceMethod yX4_restsOf, Cond.selects RX4 yX4_restsOf yX4_restsOf, Cond.code yX4_restsOf cX4_restsOf 3 (some .int), Cond.methodLink RX4 82 yX4_refuseBy, Cond.instanceMethod yX4_refuseBy, Cond.selects RX4 yX4_refuseBy yX4_refuseBy, Cond.code yX4_refuseBy cX4_refuseBy 4 (some .int), Cond.fieldLink RX4 22 "ParcelShelvesModel" "reason" "I", Cond.fieldLink RX4 26 "ParcelShelvesModel" "behind" "I", Cond.methodLink RX4 135 yX4_ofSender, Cond.instanceMethod yX4_ofSender, Cond.selects RX4 yX4_ofSender yX4_ofSender, Cond.code yX4_ofSender cX4_ofSender 3 (some .int), Cond.methodLink RX4 47 yX4_record, Cond.instanceMethod yX4_record, Cond.selects RX4 yX4_record yX4_record]
def wsX4_refuse_r3 : List Cond := [Cond.code yX4_record cX4_record 2 none, Cond.fieldLink RX4 36 "ParcelShelvesModel" "pastMany" "I", Cond.fieldLink RX4 13 "ParcelShelvesModel" "past" "[I", Cond.methodLink RX4 141 yX4_goesBack, Cond.instanceMethod yX4_goesBack, Cond.selects RX4 yX4_goesBack yX4_goesBack, Cond.code yX4_goesBack cX4_goesBack 3 (some .int), Cond.methodLink RX4 118 yX4_count, Cond.instanceMethod yX4_count, Cond.selects RX4 yX4_count yX4_count, Cond.code yX4_count cX4_count 4 none, Cond.methodLink RX4 122 yX4_leave, Cond.instanceMethod yX4_leave, Cond.selects RX4 yX4_leave yX4_leave, Cond.code yX4_leave cX4_leave 2 none]
def wsX4_refuse : List Cond := .code yX4_refuse cX4_refuse 3 (some .int) :: ((wsX4_refuse_r1 ++ (wsX4_refuse_r2 ++ wsX4_refuse_r3)) ++ wsX40)
def wsX4_whyNotMove_r1 : List Cond := [Cond.methodLink RX4 112 yX4_placeBy, Cond.instanceMethod yX4_placeBy, Cond.selects RX4 yX4_placeBy yX4_placeBy, Cond.initialized RX4, Cond.code yX4_placeBy cX4_placeBy 4 (some .int), Cond.methodLink RX4 65 yX4_indexOf, Cond.static yX4_indexOf, Cond.code yX4_indexOf cX4_indexOf 5 (some .int), Cond.methodLink RX4 50 yX4_in, Cond.static yX4_in, Cond.code yX4_in cX4_in 3 (some .boolean), Cond.methodLink RX4 62 yX4_codeBy, Cond.static yX4_codeBy, Cond.code yX4_codeBy cX4_codeBy 3 (some .int), Cond.methodLink RX4 69 yX4_isTaken, Cond.instanceMethod yX4_isTaken, Cond.selects RX4 yX4_isTaken yX4_isTaken, Cond.code yX4_isTaken cX4_isTaken 2 (some .boolean), Cond.methodLink RX4 58 yX4_at, Cond.instanceMethod yX4_at, Cond.selects RX4 yX4_at yX4_at, Cond.code yX4_at cX4_at 3 (some .int), Cond.fieldLink RX4 7 "ParcelShelvesModel" "z" "[I", Cond.methodLink RX4 132 yX4_refuseCode]
def wsX4_whyNotMove_r2 : List Cond := [Cond.instanceMethod yX4_refuseCode, Cond.selects RX4 yX4_refuseCode yX4_refuseCode, Cond.code yX4_refuseCode cX4_refuseCode 2 (some .int), Cond.methodLink RX4 76 yX4_restsOf, Cond.instanceMethod yX4_restsOf, Cond.selects RX4 yX4_restsOf yX4_restsOf, Cond.code yX4_restsOf cX4_restsOf 3 (some .int), Cond.methodLink RX4 82 yX4_refuseBy, Cond.instanceMethod yX4_refuseBy, Cond.selects RX4 yX4_refuseBy yX4_refuseBy, Cond.code yX4_refuseBy cX4_refuseBy 4 (some .int), Cond.fieldLink RX4 22 "ParcelShelvesModel" "reason" "I", Cond.fieldLink RX4 26 "ParcelShelvesModel" "behind" "I", Cond.methodLink RX4 89 yX4_firstPlace, Cond.instanceMethod yX4_firstPlace, Cond.selects RX4 yX4_firstPlace yX4_firstPlace, Cond.code yX4_firstPlace cX4_firstPlace 4 (some .int), Cond.methodLink RX4 79 yX4_rests, Cond.instanceMethod yX4_rests, Cond.selects RX4 yX4_rests yX4_rests, Cond.code yX4_rests cX4_rests 2 (some .boolean), Cond.methodLink RX4 73 yX4_weekday, Cond.static yX4_weekday, Cond.code yX4_weekday cX4_weekday 1 (some .int)]
def wsX4_whyNotMove_r3 : List Cond := [Cond.methodLink RX4 92 yX4_refusePlace, Cond.instanceMethod yX4_refusePlace, Cond.selects RX4 yX4_refusePlace yX4_refusePlace, Cond.code yX4_refusePlace cX4_refusePlace 5 (some .int)]
def wsX4_whyNotMove : List Cond := .code yX4_whyNotMove cX4_whyNotMove 4 (some .int) :: ((wsX4_whyNotMove_r1 ++ (wsX4_whyNotMove_r2 ++ wsX4_whyNotMove_r3)) ++ wsX40)
def wsX4_moves_r1 : List Cond := [Cond.methodLink RX4 112 yX4_placeBy, Cond.instanceMethod yX4_placeBy, Cond.selects RX4 yX4_placeBy yX4_placeBy, Cond.initialized RX4, Cond.code yX4_placeBy cX4_placeBy 4 (some .int), Cond.methodLink RX4 65 yX4_indexOf, Cond.static yX4_indexOf, Cond.code yX4_indexOf cX4_indexOf 5 (some .int), Cond.methodLink RX4 50 yX4_in, Cond.static yX4_in, Cond.code yX4_in cX4_in 3 (some .boolean), Cond.methodLink RX4 62 yX4_codeBy, Cond.static yX4_codeBy, Cond.code yX4_codeBy cX4_codeBy 3 (some .int), Cond.methodLink RX4 69 yX4_isTaken, Cond.instanceMethod yX4_isTaken, Cond.selects RX4 yX4_isTaken yX4_isTaken, Cond.code yX4_isTaken cX4_isTaken 2 (some .boolean), Cond.methodLink RX4 58 yX4_at, Cond.instanceMethod yX4_at, Cond.selects RX4 yX4_at yX4_at, Cond.code yX4_at cX4_at 3 (some .int), Cond.fieldLink RX4 7 "ParcelShelvesModel" "z" "[I", Cond.methodLink RX4 89 yX4_firstPlace]
def wsX4_moves_r2 : List Cond := [Cond.instanceMethod yX4_firstPlace, Cond.selects RX4 yX4_firstPlace yX4_firstPlace, Cond.code yX4_firstPlace cX4_firstPlace 4 (some .int), Cond.methodLink RX4 79 yX4_rests, Cond.instanceMethod yX4_rests, Cond.selects RX4 yX4_rests yX4_rests, Cond.code yX4_rests cX4_rests 2 (some .boolean), Cond.methodLink RX4 73 yX4_weekday, Cond.static yX4_weekday, Cond.code yX4_weekday cX4_weekday 1 (some .int), Cond.methodLink RX4 76 yX4_restsOf, Cond.instanceMethod yX4_restsOf, Cond.selects RX4 yX4_restsOf yX4_restsOf, Cond.code yX4_restsOf cX4_restsOf 3 (some .int), Cond.methodLink RX4 95 yX4_lay, Cond.instanceMethod yX4_lay, Cond.selects RX4 yX4_lay yX4_lay, Cond.code yX4_lay cX4_lay 6 none, Cond.methodLink RX4 122 yX4_leave, Cond.instanceMethod yX4_leave, Cond.selects RX4 yX4_leave yX4_leave, Cond.code yX4_leave cX4_leave 2 none, Cond.methodLink RX4 99 yX4_codeOn, Cond.instanceMethod yX4_codeOn]
def wsX4_moves_r3 : List Cond := [Cond.selects RX4 yX4_codeOn yX4_codeOn, Cond.code yX4_codeOn cX4_codeOn 2 (some .int)]
def wsX4_moves : List Cond := .code yX4_moves cX4_moves 5 (some .int) :: ((wsX4_moves_r1 ++ (wsX4_moves_r2 ++ wsX4_moves_r3)) ++ wsX40)
def wsX4_move_r1 : List Cond := [Cond.methodLink RX4 144 yX4_whyNotMove, Cond.instanceMethod yX4_whyNotMove, Cond.selects RX4 yX4_whyNotMove yX4_whyNotMove, Cond.initialized RX4, Cond.code yX4_whyNotMove cX4_whyNotMove 4 (some .int), Cond.methodLink RX4 112 yX4_placeBy, Cond.instanceMethod yX4_placeBy, Cond.selects RX4 yX4_placeBy yX4_placeBy, Cond.code yX4_placeBy cX4_placeBy 4 (some .int), Cond.methodLink RX4 65 yX4_indexOf, Cond.static yX4_indexOf, Cond.code yX4_indexOf cX4_indexOf 5 (some .int), Cond.methodLink RX4 50 yX4_in, Cond.static yX4_in, Cond.code yX4_in cX4_in 3 (some .boolean), Cond.methodLink RX4 62 yX4_codeBy, Cond.static yX4_codeBy, Cond.code yX4_codeBy cX4_codeBy 3 (some .int), Cond.methodLink RX4 69 yX4_isTaken, Cond.instanceMethod yX4_isTaken, Cond.selects RX4 yX4_isTaken yX4_isTaken, Cond.code yX4_isTaken cX4_isTaken 2 (some .boolean), Cond.methodLink RX4 58 yX4_at, Cond.instanceMethod yX4_at]
def wsX4_move_r2 : List Cond := [Cond.selects RX4 yX4_at yX4_at, Cond.code yX4_at cX4_at 3 (some .int), Cond.fieldLink RX4 7 "ParcelShelvesModel" "z" "[I", Cond.methodLink RX4 132 yX4_refuseCode, Cond.instanceMethod yX4_refuseCode, Cond.selects RX4 yX4_refuseCode yX4_refuseCode, Cond.code yX4_refuseCode cX4_refuseCode 2 (some .int), Cond.methodLink RX4 76 yX4_restsOf, Cond.instanceMethod yX4_restsOf, Cond.selects RX4 yX4_restsOf yX4_restsOf, Cond.code yX4_restsOf cX4_restsOf 3 (some .int), Cond.methodLink RX4 82 yX4_refuseBy, Cond.instanceMethod yX4_refuseBy, Cond.selects RX4 yX4_refuseBy yX4_refuseBy, Cond.code yX4_refuseBy cX4_refuseBy 4 (some .int), Cond.fieldLink RX4 22 "ParcelShelvesModel" "reason" "I", Cond.fieldLink RX4 26 "ParcelShelvesModel" "behind" "I", Cond.methodLink RX4 89 yX4_firstPlace, Cond.instanceMethod yX4_firstPlace, Cond.selects RX4 yX4_firstPlace yX4_firstPlace, Cond.code yX4_firstPlace cX4_firstPlace 4 (some .int), Cond.methodLink RX4 79 yX4_rests, Cond.instanceMethod yX4_rests, Cond.selects RX4 yX4_rests yX4_rests]
def wsX4_move_r3 : List Cond := [Cond.code yX4_rests cX4_rests 2 (some .boolean), Cond.methodLink RX4 73 yX4_weekday, Cond.static yX4_weekday, Cond.code yX4_weekday cX4_weekday 1 (some .int), Cond.methodLink RX4 92 yX4_refusePlace, Cond.instanceMethod yX4_refusePlace, Cond.selects RX4 yX4_refusePlace yX4_refusePlace, Cond.code yX4_refusePlace cX4_refusePlace 5 (some .int), Cond.methodLink RX4 47 yX4_record, Cond.instanceMethod yX4_record, Cond.selects RX4 yX4_record yX4_record, Cond.code yX4_record cX4_record 2 none, Cond.fieldLink RX4 36 "ParcelShelvesModel" "pastMany" "I", Cond.fieldLink RX4 13 "ParcelShelvesModel" "past" "[I", Cond.methodLink RX4 147 yX4_moves, Cond.instanceMethod yX4_moves, Cond.selects RX4 yX4_moves yX4_moves, Cond.code yX4_moves cX4_moves 5 (some .int), Cond.methodLink RX4 95 yX4_lay, Cond.instanceMethod yX4_lay, Cond.selects RX4 yX4_lay yX4_lay, Cond.code yX4_lay cX4_lay 6 none, Cond.methodLink RX4 122 yX4_leave, Cond.instanceMethod yX4_leave]
def wsX4_move_r4 : List Cond := [Cond.selects RX4 yX4_leave yX4_leave, Cond.code yX4_leave cX4_leave 2 none, Cond.methodLink RX4 99 yX4_codeOn, Cond.instanceMethod yX4_codeOn, Cond.selects RX4 yX4_codeOn yX4_codeOn, Cond.code yX4_codeOn cX4_codeOn 2 (some .int)]
def wsX4_move : List Cond := .code yX4_move cX4_move 4 (some .int) :: ((wsX4_move_r1 ++ (wsX4_move_r2 ++ (wsX4_move_r3 ++ wsX4_move_r4))) ++ wsX40)
def wsX4_whyNotPass : List Cond := .code yX4_whyNotPass cX4_whyNotPass 2 (some .int) :: ([.fieldLink RX4 7 "ParcelShelvesModel" "z" "[I", .methodLink RX4 50 yX4_in, .static yX4_in, .initialized RX4, .code yX4_in cX4_in 3 (some .boolean)] ++ wsX40)
def wsX4_takes : List Cond := .code yX4_takes cX4_takes 5 (some .int) :: ([.fieldLink RX4 7 "ParcelShelvesModel" "z" "[I", .methodLink RX4 135 yX4_ofSender, .instanceMethod yX4_ofSender, .selects RX4 yX4_ofSender yX4_ofSender, .initialized RX4, .code yX4_ofSender cX4_ofSender 3 (some .int), .methodLink RX4 118 yX4_count, .instanceMethod yX4_count, .selects RX4 yX4_count yX4_count, .code yX4_count cX4_count 4 none] ++ wsX40)
def wsX4_begins_r1 : List Cond := [Cond.fieldLink RX4 7 "ParcelShelvesModel" "z" "[I", Cond.methodLink RX4 135 yX4_ofSender, Cond.instanceMethod yX4_ofSender, Cond.selects RX4 yX4_ofSender yX4_ofSender, Cond.initialized RX4, Cond.code yX4_ofSender cX4_ofSender 3 (some .int), Cond.methodLink RX4 150 yX4_takes, Cond.instanceMethod yX4_takes, Cond.selects RX4 yX4_takes yX4_takes, Cond.code yX4_takes cX4_takes 5 (some .int), Cond.methodLink RX4 118 yX4_count, Cond.instanceMethod yX4_count, Cond.selects RX4 yX4_count yX4_count, Cond.code yX4_count cX4_count 4 none, Cond.methodLink RX4 69 yX4_isTaken, Cond.instanceMethod yX4_isTaken, Cond.selects RX4 yX4_isTaken yX4_isTaken, Cond.code yX4_isTaken cX4_isTaken 2 (some .boolean), Cond.methodLink RX4 58 yX4_at, Cond.instanceMethod yX4_at, Cond.selects RX4 yX4_at yX4_at, Cond.code yX4_at cX4_at 3 (some .int), Cond.methodLink RX4 141 yX4_goesBack, Cond.instanceMethod yX4_goesBack]
def wsX4_begins_r2 : List Cond := [Cond.selects RX4 yX4_goesBack yX4_goesBack, Cond.code yX4_goesBack cX4_goesBack 3 (some .int), Cond.methodLink RX4 122 yX4_leave, Cond.instanceMethod yX4_leave, Cond.selects RX4 yX4_leave yX4_leave, Cond.code yX4_leave cX4_leave 2 none]
def wsX4_begins : List Cond := .code yX4_begins cX4_begins 3 (some .int) :: ((wsX4_begins_r1 ++ wsX4_begins_r2) ++ wsX40)
def wsX4_passes_r1 : List Cond := [Cond.methodLink RX4 153 yX4_begins, Cond.instanceMethod yX4_begins, Cond.selects RX4 yX4_begins yX4_begins, Cond.initialized RX4, Cond.code yX4_begins cX4_begins 3 (some .int), Cond.fieldLink RX4 7 "ParcelShelvesModel" "z" "[I", Cond.methodLink RX4 135 yX4_ofSender, Cond.instanceMethod yX4_ofSender, Cond.selects RX4 yX4_ofSender yX4_ofSender, Cond.code yX4_ofSender cX4_ofSender 3 (some .int), Cond.methodLink RX4 150 yX4_takes, Cond.instanceMethod yX4_takes, Cond.selects RX4 yX4_takes yX4_takes, Cond.code yX4_takes cX4_takes 5 (some .int), Cond.methodLink RX4 118 yX4_count, Cond.instanceMethod yX4_count, Cond.selects RX4 yX4_count yX4_count, Cond.code yX4_count cX4_count 4 none, Cond.methodLink RX4 69 yX4_isTaken, Cond.instanceMethod yX4_isTaken, Cond.selects RX4 yX4_isTaken yX4_isTaken, Cond.code yX4_isTaken cX4_isTaken 2 (some .boolean), Cond.methodLink RX4 58 yX4_at, Cond.instanceMethod yX4_at]
def wsX4_passes_r2 : List Cond := [Cond.selects RX4 yX4_at yX4_at, Cond.code yX4_at cX4_at 3 (some .int), Cond.methodLink RX4 141 yX4_goesBack, Cond.instanceMethod yX4_goesBack, Cond.selects RX4 yX4_goesBack yX4_goesBack, Cond.code yX4_goesBack cX4_goesBack 3 (some .int), Cond.methodLink RX4 122 yX4_leave, Cond.instanceMethod yX4_leave, Cond.selects RX4 yX4_leave yX4_leave, Cond.code yX4_leave cX4_leave 2 none]
def wsX4_passes : List Cond := .code yX4_passes cX4_passes 4 (some .int) :: ((wsX4_passes_r1 ++ wsX4_passes_r2) ++ wsX40)
def wsX4_pass_r1 : List Cond := [Cond.methodLink RX4 156 yX4_whyNotPass, Cond.instanceMethod yX4_whyNotPass, Cond.selects RX4 yX4_whyNotPass yX4_whyNotPass, Cond.initialized RX4, Cond.code yX4_whyNotPass cX4_whyNotPass 2 (some .int), Cond.fieldLink RX4 7 "ParcelShelvesModel" "z" "[I", Cond.methodLink RX4 50 yX4_in, Cond.static yX4_in, Cond.code yX4_in cX4_in 3 (some .boolean), Cond.methodLink RX4 47 yX4_record, Cond.instanceMethod yX4_record, Cond.selects RX4 yX4_record yX4_record, Cond.code yX4_record cX4_record 2 none, Cond.fieldLink RX4 36 "ParcelShelvesModel" "pastMany" "I", Cond.fieldLink RX4 13 "ParcelShelvesModel" "past" "[I", Cond.methodLink RX4 159 yX4_passes, Cond.instanceMethod yX4_passes, Cond.selects RX4 yX4_passes yX4_passes, Cond.code yX4_passes cX4_passes 4 (some .int), Cond.methodLink RX4 153 yX4_begins, Cond.instanceMethod yX4_begins, Cond.selects RX4 yX4_begins yX4_begins, Cond.code yX4_begins cX4_begins 3 (some .int), Cond.methodLink RX4 135 yX4_ofSender]
def wsX4_pass_r2 : List Cond := [Cond.instanceMethod yX4_ofSender, Cond.selects RX4 yX4_ofSender yX4_ofSender, Cond.code yX4_ofSender cX4_ofSender 3 (some .int), Cond.methodLink RX4 150 yX4_takes, Cond.instanceMethod yX4_takes, Cond.selects RX4 yX4_takes yX4_takes, Cond.code yX4_takes cX4_takes 5 (some .int), Cond.methodLink RX4 118 yX4_count, Cond.instanceMethod yX4_count, Cond.selects RX4 yX4_count yX4_count, Cond.code yX4_count cX4_count 4 none, Cond.methodLink RX4 69 yX4_isTaken, Cond.instanceMethod yX4_isTaken, Cond.selects RX4 yX4_isTaken yX4_isTaken, Cond.code yX4_isTaken cX4_isTaken 2 (some .boolean), Cond.methodLink RX4 58 yX4_at, Cond.instanceMethod yX4_at, Cond.selects RX4 yX4_at yX4_at, Cond.code yX4_at cX4_at 3 (some .int), Cond.methodLink RX4 141 yX4_goesBack, Cond.instanceMethod yX4_goesBack, Cond.selects RX4 yX4_goesBack yX4_goesBack, Cond.code yX4_goesBack cX4_goesBack 3 (some .int), Cond.methodLink RX4 122 yX4_leave]
def wsX4_pass_r3 : List Cond := [Cond.instanceMethod yX4_leave, Cond.selects RX4 yX4_leave yX4_leave, Cond.code yX4_leave cX4_leave 2 none]
def wsX4_pass : List Cond := .code yX4_pass cX4_pass 3 (some .int) :: ((wsX4_pass_r1 ++ (wsX4_pass_r2 ++ wsX4_pass_r3)) ++ wsX40)
def wsX4_call_r1 : List Cond := [Cond.methodLink RX4 86 yX4_isSender, Cond.static yX4_isSender, Cond.initialized RX4, Cond.code yX4_isSender cX4_isSender 1 (some .boolean), Cond.methodLink RX4 50 yX4_in, Cond.static yX4_in, Cond.code yX4_in cX4_in 3 (some .boolean), Cond.methodLink RX4 135 yX4_ofSender, Cond.instanceMethod yX4_ofSender, Cond.selects RX4 yX4_ofSender yX4_ofSender, Cond.code yX4_ofSender cX4_ofSender 3 (some .int), Cond.fieldLink RX4 7 "ParcelShelvesModel" "z" "[I", Cond.methodLink RX4 47 yX4_record, Cond.instanceMethod yX4_record, Cond.selects RX4 yX4_record yX4_record, Cond.code yX4_record cX4_record 2 none, Cond.fieldLink RX4 36 "ParcelShelvesModel" "pastMany" "I", Cond.fieldLink RX4 13 "ParcelShelvesModel" "past" "[I", Cond.methodLink RX4 150 yX4_takes, Cond.instanceMethod yX4_takes, Cond.selects RX4 yX4_takes yX4_takes, Cond.code yX4_takes cX4_takes 5 (some .int), Cond.methodLink RX4 118 yX4_count, Cond.instanceMethod yX4_count]
def wsX4_call_r2 : List Cond := [Cond.selects RX4 yX4_count yX4_count, Cond.code yX4_count cX4_count 4 none]
def wsX4_call : List Cond := .code yX4_call cX4_call 2 (some .int) :: ((wsX4_call_r1 ++ wsX4_call_r2) ++ wsX40)
def wsX4_day : List Cond := .code yX4_day cX4_day 1 (some .int) :: ([.fieldLink RX4 7 "ParcelShelvesModel" "z" "[I"] ++ wsX40)
def wsX4_parcel_r1 : List Cond := [Cond.fieldLink RX4 7 "ParcelShelvesModel" "z" "[I", Cond.methodLink RX4 112 yX4_placeBy, Cond.instanceMethod yX4_placeBy, Cond.selects RX4 yX4_placeBy yX4_placeBy, Cond.initialized RX4, Cond.code yX4_placeBy cX4_placeBy 4 (some .int), Cond.methodLink RX4 65 yX4_indexOf, Cond.static yX4_indexOf, Cond.code yX4_indexOf cX4_indexOf 5 (some .int), Cond.methodLink RX4 50 yX4_in, Cond.static yX4_in, Cond.code yX4_in cX4_in 3 (some .boolean), Cond.methodLink RX4 62 yX4_codeBy, Cond.static yX4_codeBy, Cond.code yX4_codeBy cX4_codeBy 3 (some .int), Cond.methodLink RX4 69 yX4_isTaken, Cond.instanceMethod yX4_isTaken, Cond.selects RX4 yX4_isTaken yX4_isTaken, Cond.code yX4_isTaken cX4_isTaken 2 (some .boolean), Cond.methodLink RX4 58 yX4_at, Cond.instanceMethod yX4_at, Cond.selects RX4 yX4_at yX4_at, Cond.code yX4_at cX4_at 3 (some .int), Cond.methodLink RX4 115 yX4_feeOn]
def wsX4_parcel_r2 : List Cond := [Cond.instanceMethod yX4_feeOn, Cond.selects RX4 yX4_feeOn yX4_feeOn, Cond.code yX4_feeOn cX4_feeOn 4 (some .int)]
def wsX4_parcel : List Cond := .code yX4_parcel cX4_parcel 4 (some .int) :: ((wsX4_parcel_r1 ++ wsX4_parcel_r2) ++ wsX40)
def wsX4_isPlace : List Cond := .code yX4_isPlace cX4_isPlace 2 (some .boolean) :: ([.methodLink RX4 50 yX4_in, .static yX4_in, .initialized RX4, .code yX4_in cX4_in 3 (some .boolean)])
def wsX4_codeAt : List Cond := .code yX4_codeAt cX4_codeAt 3 (some .int) :: ([.methodLink RX4 162 yX4_isPlace, .static yX4_isPlace, .initialized RX4, .code yX4_isPlace cX4_isPlace 2 (some .boolean), .methodLink RX4 50 yX4_in, .static yX4_in, .code yX4_in cX4_in 3 (some .boolean), .methodLink RX4 69 yX4_isTaken, .instanceMethod yX4_isTaken, .selects RX4 yX4_isTaken yX4_isTaken, .code yX4_isTaken cX4_isTaken 2 (some .boolean), .methodLink RX4 58 yX4_at, .instanceMethod yX4_at, .selects RX4 yX4_at yX4_at, .code yX4_at cX4_at 3 (some .int), .fieldLink RX4 7 "ParcelShelvesModel" "z" "[I", .methodLink RX4 99 yX4_codeOn, .instanceMethod yX4_codeOn, .selects RX4 yX4_codeOn yX4_codeOn, .code yX4_codeOn cX4_codeOn 2 (some .int), .methodLink RX4 62 yX4_codeBy, .static yX4_codeBy, .code yX4_codeBy cX4_codeBy 3 (some .int)] ++ wsX40)
def wsX4_shelf : List Cond := .code yX4_shelf cX4_shelf 6 (some .int) :: ([.methodLink RX4 50 yX4_in, .static yX4_in, .initialized RX4, .code yX4_in cX4_in 3 (some .boolean), .methodLink RX4 69 yX4_isTaken, .instanceMethod yX4_isTaken, .selects RX4 yX4_isTaken yX4_isTaken, .code yX4_isTaken cX4_isTaken 2 (some .boolean), .methodLink RX4 58 yX4_at, .instanceMethod yX4_at, .selects RX4 yX4_at yX4_at, .code yX4_at cX4_at 3 (some .int), .fieldLink RX4 7 "ParcelShelvesModel" "z" "[I", .methodLink RX4 79 yX4_rests, .instanceMethod yX4_rests, .selects RX4 yX4_rests yX4_rests, .code yX4_rests cX4_rests 2 (some .boolean), .methodLink RX4 73 yX4_weekday, .static yX4_weekday, .code yX4_weekday cX4_weekday 1 (some .int), .methodLink RX4 76 yX4_restsOf, .instanceMethod yX4_restsOf, .selects RX4 yX4_restsOf yX4_restsOf, .code yX4_restsOf cX4_restsOf 3 (some .int)] ++ wsX40)
def wsX4_sender : List Cond := .code yX4_sender cX4_sender 5 (some .int) :: ([.methodLink RX4 86 yX4_isSender, .static yX4_isSender, .initialized RX4, .code yX4_isSender cX4_isSender 1 (some .boolean), .methodLink RX4 50 yX4_in, .static yX4_in, .code yX4_in cX4_in 3 (some .boolean), .methodLink RX4 58 yX4_at, .instanceMethod yX4_at, .selects RX4 yX4_at yX4_at, .code yX4_at cX4_at 3 (some .int), .fieldLink RX4 7 "ParcelShelvesModel" "z" "[I", .methodLink RX4 135 yX4_ofSender, .instanceMethod yX4_ofSender, .selects RX4 yX4_ofSender yX4_ofSender, .code yX4_ofSender cX4_ofSender 3 (some .int)] ++ wsX40)
def wsX4_inBins : List Cond := .code yX4_inBins cX4_inBins 3 (some .int) :: ([.methodLink RX4 135 yX4_ofSender, .instanceMethod yX4_ofSender, .selects RX4 yX4_ofSender yX4_ofSender, .initialized RX4, .code yX4_ofSender cX4_ofSender 3 (some .int), .fieldLink RX4 7 "ParcelShelvesModel" "z" "[I"] ++ wsX40)
def wsX4_fees : List Cond := .code yX4_fees cX4_fees 3 (some .int) :: ([.fieldLink RX4 7 "ParcelShelvesModel" "z" "[I", .methodLink RX4 69 yX4_isTaken, .instanceMethod yX4_isTaken, .selects RX4 yX4_isTaken yX4_isTaken, .initialized RX4, .code yX4_isTaken cX4_isTaken 2 (some .boolean), .methodLink RX4 58 yX4_at, .instanceMethod yX4_at, .selects RX4 yX4_at yX4_at, .code yX4_at cX4_at 3 (some .int), .methodLink RX4 115 yX4_feeOn, .instanceMethod yX4_feeOn, .selects RX4 yX4_feeOn yX4_feeOn, .code yX4_feeOn cX4_feeOn 4 (some .int)] ++ wsX40)
def wsX4_total_r1 : List Cond := [Cond.fieldLink RX4 7 "ParcelShelvesModel" "z" "[I", Cond.methodLink RX4 43 yX4_parcels, Cond.instanceMethod yX4_parcels, Cond.selects RX4 yX4_parcels yX4_parcels, Cond.initialized RX4, Cond.code yX4_parcels cX4_parcels 3 (some .int), Cond.methodLink RX4 69 yX4_isTaken, Cond.instanceMethod yX4_isTaken, Cond.selects RX4 yX4_isTaken yX4_isTaken, Cond.code yX4_isTaken cX4_isTaken 2 (some .boolean), Cond.methodLink RX4 58 yX4_at, Cond.instanceMethod yX4_at, Cond.selects RX4 yX4_at yX4_at, Cond.code yX4_at cX4_at 3 (some .int), Cond.methodLink RX4 165 yX4_inBins, Cond.instanceMethod yX4_inBins, Cond.selects RX4 yX4_inBins yX4_inBins, Cond.code yX4_inBins cX4_inBins 3 (some .int), Cond.methodLink RX4 135 yX4_ofSender, Cond.instanceMethod yX4_ofSender, Cond.selects RX4 yX4_ofSender yX4_ofSender, Cond.code yX4_ofSender cX4_ofSender 3 (some .int), Cond.methodLink RX4 108 yX4_isLocked, Cond.instanceMethod yX4_isLocked]
def wsX4_total_r2 : List Cond := [Cond.selects RX4 yX4_isLocked yX4_isLocked, Cond.code yX4_isLocked cX4_isLocked 1 (some .boolean), Cond.methodLink RX4 168 yX4_fees, Cond.instanceMethod yX4_fees, Cond.selects RX4 yX4_fees yX4_fees, Cond.code yX4_fees cX4_fees 3 (some .int), Cond.methodLink RX4 115 yX4_feeOn, Cond.instanceMethod yX4_feeOn, Cond.selects RX4 yX4_feeOn yX4_feeOn, Cond.code yX4_feeOn cX4_feeOn 4 (some .int)]
def wsX4_total : List Cond := .code yX4_total cX4_total 2 (some .int) :: ((wsX4_total_r1 ++ wsX4_total_r2) ++ wsX40)
def wsX4_refusal : List Cond := .code yX4_refusal cX4_refusal 2 (some .int) :: ([.fieldLink RX4 22 "ParcelShelvesModel" "reason" "I", .fieldLink RX4 26 "ParcelShelvesModel" "behind" "I"] ++ wsX40)
def wsX4_isCode : List Cond := .code yX4_isCode cX4_isCode 2 (some .int) :: ([.methodLink RX4 50 yX4_in, .static yX4_in, .initialized RX4, .code yX4_in cX4_in 3 (some .boolean), .methodLink RX4 65 yX4_indexOf, .static yX4_indexOf, .code yX4_indexOf cX4_indexOf 5 (some .int), .methodLink RX4 62 yX4_codeBy, .static yX4_codeBy, .code yX4_codeBy cX4_codeBy 3 (some .int)])
def wsX4_codeOf : List Cond := .code yX4_codeOf cX4_codeOf 4 (some .int) :: ([.methodLink RX4 162 yX4_isPlace, .static yX4_isPlace, .initialized RX4, .code yX4_isPlace cX4_isPlace 2 (some .boolean), .methodLink RX4 50 yX4_in, .static yX4_in, .code yX4_in cX4_in 3 (some .boolean), .methodLink RX4 73 yX4_weekday, .static yX4_weekday, .code yX4_weekday cX4_weekday 1 (some .int), .methodLink RX4 62 yX4_codeBy, .static yX4_codeBy, .code yX4_codeBy cX4_codeBy 3 (some .int)])
def wsX4_restsUntil : List Cond := .code yX4_restsUntil cX4_restsUntil 2 (some .int) :: ([.methodLink RX4 50 yX4_in, .static yX4_in, .initialized RX4, .code yX4_in cX4_in 3 (some .boolean), .methodLink RX4 65 yX4_indexOf, .static yX4_indexOf, .code yX4_indexOf cX4_indexOf 5 (some .int), .methodLink RX4 62 yX4_codeBy, .static yX4_codeBy, .code yX4_codeBy cX4_codeBy 3 (some .int), .methodLink RX4 76 yX4_restsOf, .instanceMethod yX4_restsOf, .selects RX4 yX4_restsOf yX4_restsOf, .code yX4_restsOf cX4_restsOf 3 (some .int), .fieldLink RX4 7 "ParcelShelvesModel" "z" "[I"] ++ wsX40)
def wsX4_nextCode_r1 : List Cond := [Cond.fieldLink RX4 7 "ParcelShelvesModel" "z" "[I", Cond.methodLink RX4 50 yX4_in, Cond.static yX4_in, Cond.initialized RX4, Cond.code yX4_in cX4_in 3 (some .boolean), Cond.methodLink RX4 89 yX4_firstPlace, Cond.instanceMethod yX4_firstPlace, Cond.selects RX4 yX4_firstPlace yX4_firstPlace, Cond.code yX4_firstPlace cX4_firstPlace 4 (some .int), Cond.methodLink RX4 69 yX4_isTaken, Cond.instanceMethod yX4_isTaken, Cond.selects RX4 yX4_isTaken yX4_isTaken, Cond.code yX4_isTaken cX4_isTaken 2 (some .boolean), Cond.methodLink RX4 58 yX4_at, Cond.instanceMethod yX4_at, Cond.selects RX4 yX4_at yX4_at, Cond.code yX4_at cX4_at 3 (some .int), Cond.methodLink RX4 79 yX4_rests, Cond.instanceMethod yX4_rests, Cond.selects RX4 yX4_rests yX4_rests, Cond.code yX4_rests cX4_rests 2 (some .boolean), Cond.methodLink RX4 73 yX4_weekday, Cond.static yX4_weekday, Cond.code yX4_weekday cX4_weekday 1 (some .int)]
def wsX4_nextCode_r2 : List Cond := [Cond.methodLink RX4 76 yX4_restsOf, Cond.instanceMethod yX4_restsOf, Cond.selects RX4 yX4_restsOf yX4_restsOf, Cond.code yX4_restsOf cX4_restsOf 3 (some .int), Cond.methodLink RX4 62 yX4_codeBy, Cond.static yX4_codeBy, Cond.code yX4_codeBy cX4_codeBy 3 (some .int)]
def wsX4_nextCode : List Cond := .code yX4_nextCode cX4_nextCode 3 (some .int) :: ((wsX4_nextCode_r1 ++ wsX4_nextCode_r2) ++ wsX40)
def wsX4_feeIn_r1 : List Cond := [Cond.fieldLink RX4 7 "ParcelShelvesModel" "z" "[I", Cond.methodLink RX4 112 yX4_placeBy, Cond.instanceMethod yX4_placeBy, Cond.selects RX4 yX4_placeBy yX4_placeBy, Cond.initialized RX4, Cond.code yX4_placeBy cX4_placeBy 4 (some .int), Cond.methodLink RX4 65 yX4_indexOf, Cond.static yX4_indexOf, Cond.code yX4_indexOf cX4_indexOf 5 (some .int), Cond.methodLink RX4 50 yX4_in, Cond.static yX4_in, Cond.code yX4_in cX4_in 3 (some .boolean), Cond.methodLink RX4 62 yX4_codeBy, Cond.static yX4_codeBy, Cond.code yX4_codeBy cX4_codeBy 3 (some .int), Cond.methodLink RX4 69 yX4_isTaken, Cond.instanceMethod yX4_isTaken, Cond.selects RX4 yX4_isTaken yX4_isTaken, Cond.code yX4_isTaken cX4_isTaken 2 (some .boolean), Cond.methodLink RX4 58 yX4_at, Cond.instanceMethod yX4_at, Cond.selects RX4 yX4_at yX4_at, Cond.code yX4_at cX4_at 3 (some .int), Cond.methodLink RX4 115 yX4_feeOn]
def wsX4_feeIn_r2 : List Cond := [Cond.instanceMethod yX4_feeOn, Cond.selects RX4 yX4_feeOn yX4_feeOn, Cond.code yX4_feeOn cX4_feeOn 4 (some .int)]
def wsX4_feeIn : List Cond := .code yX4_feeIn cX4_feeIn 4 (some .int) :: ((wsX4_feeIn_r1 ++ wsX4_feeIn_r2) ++ wsX40)
def wsX4_goesIn_r1 : List Cond := [Cond.methodLink RX4 112 yX4_placeBy, Cond.instanceMethod yX4_placeBy, Cond.selects RX4 yX4_placeBy yX4_placeBy, Cond.initialized RX4, Cond.code yX4_placeBy cX4_placeBy 4 (some .int), Cond.methodLink RX4 65 yX4_indexOf, Cond.static yX4_indexOf, Cond.code yX4_indexOf cX4_indexOf 5 (some .int), Cond.methodLink RX4 50 yX4_in, Cond.static yX4_in, Cond.code yX4_in cX4_in 3 (some .boolean), Cond.methodLink RX4 62 yX4_codeBy, Cond.static yX4_codeBy, Cond.code yX4_codeBy cX4_codeBy 3 (some .int), Cond.methodLink RX4 69 yX4_isTaken, Cond.instanceMethod yX4_isTaken, Cond.selects RX4 yX4_isTaken yX4_isTaken, Cond.code yX4_isTaken cX4_isTaken 2 (some .boolean), Cond.methodLink RX4 58 yX4_at, Cond.instanceMethod yX4_at, Cond.selects RX4 yX4_at yX4_at, Cond.code yX4_at cX4_at 3 (some .int), Cond.fieldLink RX4 7 "ParcelShelvesModel" "z" "[I", Cond.methodLink RX4 171 yX4_putAside]
def wsX4_goesIn_r2 : List Cond := [Cond.instanceMethod yX4_putAside, Cond.selects RX4 yX4_putAside yX4_putAside, Cond.code yX4_putAside cX4_putAside 2 none, Cond.fieldLink RX4 19 "ParcelShelvesModel" "aside" "[I", Cond.methodLink RX4 153 yX4_begins, Cond.instanceMethod yX4_begins, Cond.selects RX4 yX4_begins yX4_begins, Cond.code yX4_begins cX4_begins 3 (some .int), Cond.methodLink RX4 135 yX4_ofSender, Cond.instanceMethod yX4_ofSender, Cond.selects RX4 yX4_ofSender yX4_ofSender, Cond.code yX4_ofSender cX4_ofSender 3 (some .int), Cond.methodLink RX4 150 yX4_takes, Cond.instanceMethod yX4_takes, Cond.selects RX4 yX4_takes yX4_takes, Cond.code yX4_takes cX4_takes 5 (some .int), Cond.methodLink RX4 118 yX4_count, Cond.instanceMethod yX4_count, Cond.selects RX4 yX4_count yX4_count, Cond.code yX4_count cX4_count 4 none, Cond.methodLink RX4 141 yX4_goesBack, Cond.instanceMethod yX4_goesBack, Cond.selects RX4 yX4_goesBack yX4_goesBack, Cond.code yX4_goesBack cX4_goesBack 3 (some .int)]
def wsX4_goesIn_r3 : List Cond := [Cond.methodLink RX4 122 yX4_leave, Cond.instanceMethod yX4_leave, Cond.selects RX4 yX4_leave yX4_leave, Cond.code yX4_leave cX4_leave 2 none, Cond.methodLink RX4 174 yX4_takeBack, Cond.instanceMethod yX4_takeBack, Cond.selects RX4 yX4_takeBack yX4_takeBack, Cond.code yX4_takeBack cX4_takeBack 2 none]
def wsX4_goesIn : List Cond := .code yX4_goesIn cX4_goesIn 5 (some .int) :: ((wsX4_goesIn_r1 ++ (wsX4_goesIn_r2 ++ wsX4_goesIn_r3)) ++ wsX40)
def wsX4_chargesIn_r1 : List Cond := [Cond.fieldLink RX4 7 "ParcelShelvesModel" "z" "[I", Cond.methodLink RX4 50 yX4_in, Cond.static yX4_in, Cond.initialized RX4, Cond.code yX4_in cX4_in 3 (some .boolean), Cond.methodLink RX4 171 yX4_putAside, Cond.instanceMethod yX4_putAside, Cond.selects RX4 yX4_putAside yX4_putAside, Cond.code yX4_putAside cX4_putAside 2 none, Cond.fieldLink RX4 19 "ParcelShelvesModel" "aside" "[I", Cond.methodLink RX4 159 yX4_passes, Cond.instanceMethod yX4_passes, Cond.selects RX4 yX4_passes yX4_passes, Cond.code yX4_passes cX4_passes 4 (some .int), Cond.methodLink RX4 153 yX4_begins, Cond.instanceMethod yX4_begins, Cond.selects RX4 yX4_begins yX4_begins, Cond.code yX4_begins cX4_begins 3 (some .int), Cond.methodLink RX4 135 yX4_ofSender, Cond.instanceMethod yX4_ofSender, Cond.selects RX4 yX4_ofSender yX4_ofSender, Cond.code yX4_ofSender cX4_ofSender 3 (some .int), Cond.methodLink RX4 150 yX4_takes, Cond.instanceMethod yX4_takes]
def wsX4_chargesIn_r2 : List Cond := [Cond.selects RX4 yX4_takes yX4_takes, Cond.code yX4_takes cX4_takes 5 (some .int), Cond.methodLink RX4 118 yX4_count, Cond.instanceMethod yX4_count, Cond.selects RX4 yX4_count yX4_count, Cond.code yX4_count cX4_count 4 none, Cond.methodLink RX4 69 yX4_isTaken, Cond.instanceMethod yX4_isTaken, Cond.selects RX4 yX4_isTaken yX4_isTaken, Cond.code yX4_isTaken cX4_isTaken 2 (some .boolean), Cond.methodLink RX4 58 yX4_at, Cond.instanceMethod yX4_at, Cond.selects RX4 yX4_at yX4_at, Cond.code yX4_at cX4_at 3 (some .int), Cond.methodLink RX4 141 yX4_goesBack, Cond.instanceMethod yX4_goesBack, Cond.selects RX4 yX4_goesBack yX4_goesBack, Cond.code yX4_goesBack cX4_goesBack 3 (some .int), Cond.methodLink RX4 122 yX4_leave, Cond.instanceMethod yX4_leave, Cond.selects RX4 yX4_leave yX4_leave, Cond.code yX4_leave cX4_leave 2 none, Cond.methodLink RX4 174 yX4_takeBack, Cond.instanceMethod yX4_takeBack]
def wsX4_chargesIn_r3 : List Cond := [Cond.selects RX4 yX4_takeBack yX4_takeBack, Cond.code yX4_takeBack cX4_takeBack 2 none]
def wsX4_chargesIn : List Cond := .code yX4_chargesIn cX4_chargesIn 3 (some .int) :: ((wsX4_chargesIn_r1 ++ (wsX4_chargesIn_r2 ++ wsX4_chargesIn_r3)) ++ wsX40)
def wsX4_append : List Cond := .code yX4_append cX4_append 2 (some .int) :: ([.fieldLink RX4 177 "ParcelShelvesModel" "typed" "I", .fieldLink RX4 29 "ParcelShelvesModel" "buffer" "[C", .methodLink RX4 50 yX4_in, .static yX4_in, .initialized RX4, .code yX4_in cX4_in 3 (some .boolean)] ++ wsX40)
def wsX4_clearText : List Cond := .code yX4_clearText cX4_clearText 2 (some .int) :: ([.fieldLink RX4 177 "ParcelShelvesModel" "typed" "I"] ++ wsX40)
def wsX4_letter : List Cond := .code yX4_letter cX4_letter 1 (some .int) :: ([.fieldLink RX4 180 "ParcelShelvesModel" "spot" "I", .fieldLink RX4 177 "ParcelShelvesModel" "typed" "I", .fieldLink RX4 29 "ParcelShelvesModel" "buffer" "[C"] ++ wsX40)
def wsX4_wants : List Cond := .code yX4_wants cX4_wants 2 none :: ([.fieldLink RX4 183 "ParcelShelvesModel" "wrong" "I", .fieldLink RX4 180 "ParcelShelvesModel" "spot" "I"] ++ wsX40)
def wsX4_figure : List Cond := .code yX4_figure cX4_figure 4 (some .int) :: ([.methodLink RX4 186 yX4_letter, .instanceMethod yX4_letter, .selects RX4 yX4_letter yX4_letter, .initialized RX4, .code yX4_letter cX4_letter 1 (some .int), .fieldLink RX4 180 "ParcelShelvesModel" "spot" "I", .fieldLink RX4 177 "ParcelShelvesModel" "typed" "I", .fieldLink RX4 29 "ParcelShelvesModel" "buffer" "[C", .methodLink RX4 50 yX4_in, .static yX4_in, .code yX4_in cX4_in 3 (some .boolean), .methodLink RX4 189 yX4_wants, .instanceMethod yX4_wants, .selects RX4 yX4_wants yX4_wants, .code yX4_wants cX4_wants 2 none, .fieldLink RX4 183 "ParcelShelvesModel" "wrong" "I"] ++ wsX40)
def wsX4_days : List Cond := .code yX4_days cX4_days 3 (some .int) :: ([.fieldLink RX4 183 "ParcelShelvesModel" "wrong" "I", .fieldLink RX4 180 "ParcelShelvesModel" "spot" "I", .methodLink RX4 193 yX4_figure, .instanceMethod yX4_figure, .selects RX4 yX4_figure yX4_figure, .initialized RX4, .code yX4_figure cX4_figure 4 (some .int), .methodLink RX4 186 yX4_letter, .instanceMethod yX4_letter, .selects RX4 yX4_letter yX4_letter, .code yX4_letter cX4_letter 1 (some .int), .fieldLink RX4 177 "ParcelShelvesModel" "typed" "I", .fieldLink RX4 29 "ParcelShelvesModel" "buffer" "[C", .methodLink RX4 50 yX4_in, .static yX4_in, .code yX4_in cX4_in 3 (some .boolean), .methodLink RX4 189 yX4_wants, .instanceMethod yX4_wants, .selects RX4 yX4_wants yX4_wants, .code yX4_wants cX4_wants 2 none] ++ wsX40)
def wsX4_size : List Cond := .code yX4_size cX4_size 2 (some .int) :: ([.methodLink RX4 186 yX4_letter, .instanceMethod yX4_letter, .selects RX4 yX4_letter yX4_letter, .initialized RX4, .code yX4_letter cX4_letter 1 (some .int), .fieldLink RX4 180 "ParcelShelvesModel" "spot" "I", .fieldLink RX4 177 "ParcelShelvesModel" "typed" "I", .fieldLink RX4 29 "ParcelShelvesModel" "buffer" "[C", .methodLink RX4 189 yX4_wants, .instanceMethod yX4_wants, .selects RX4 yX4_wants yX4_wants, .code yX4_wants cX4_wants 2 none, .fieldLink RX4 183 "ParcelShelvesModel" "wrong" "I"] ++ wsX40)
def wsX4_readCommand_r1 : List Cond := [Cond.fieldLink RX4 33 "ParcelShelvesModel" "told" "[I", Cond.fieldLink RX4 202 "ParcelShelvesModel" "toldMany" "I", Cond.methodLink RX4 186 yX4_letter, Cond.instanceMethod yX4_letter, Cond.selects RX4 yX4_letter yX4_letter, Cond.initialized RX4, Cond.code yX4_letter cX4_letter 1 (some .int), Cond.fieldLink RX4 180 "ParcelShelvesModel" "spot" "I", Cond.fieldLink RX4 177 "ParcelShelvesModel" "typed" "I", Cond.fieldLink RX4 29 "ParcelShelvesModel" "buffer" "[C", Cond.methodLink RX4 189 yX4_wants, Cond.instanceMethod yX4_wants, Cond.selects RX4 yX4_wants yX4_wants, Cond.code yX4_wants cX4_wants 2 none, Cond.fieldLink RX4 183 "ParcelShelvesModel" "wrong" "I", Cond.methodLink RX4 193 yX4_figure, Cond.instanceMethod yX4_figure, Cond.selects RX4 yX4_figure yX4_figure, Cond.code yX4_figure cX4_figure 4 (some .int), Cond.methodLink RX4 50 yX4_in, Cond.static yX4_in, Cond.code yX4_in cX4_in 3 (some .boolean), Cond.methodLink RX4 196 yX4_size, Cond.instanceMethod yX4_size]
def wsX4_readCommand_r2 : List Cond := [Cond.selects RX4 yX4_size yX4_size, Cond.code yX4_size cX4_size 2 (some .int), Cond.methodLink RX4 199 yX4_days, Cond.instanceMethod yX4_days, Cond.selects RX4 yX4_days yX4_days, Cond.code yX4_days cX4_days 3 (some .int)]
def wsX4_readCommand : List Cond := .code yX4_readCommand cX4_readCommand 5 none :: ((wsX4_readCommand_r1 ++ wsX4_readCommand_r2) ++ wsX40)
def wsX4_errorPosition_r1 : List Cond := [Cond.fieldLink RX4 202 "ParcelShelvesModel" "toldMany" "I", Cond.fieldLink RX4 180 "ParcelShelvesModel" "spot" "I", Cond.fieldLink RX4 183 "ParcelShelvesModel" "wrong" "I", Cond.fieldLink RX4 177 "ParcelShelvesModel" "typed" "I", Cond.methodLink RX4 205 yX4_readCommand, Cond.instanceMethod yX4_readCommand, Cond.selects RX4 yX4_readCommand yX4_readCommand, Cond.initialized RX4, Cond.code yX4_readCommand cX4_readCommand 5 none, Cond.fieldLink RX4 33 "ParcelShelvesModel" "told" "[I", Cond.methodLink RX4 186 yX4_letter, Cond.instanceMethod yX4_letter, Cond.selects RX4 yX4_letter yX4_letter, Cond.code yX4_letter cX4_letter 1 (some .int), Cond.fieldLink RX4 29 "ParcelShelvesModel" "buffer" "[C", Cond.methodLink RX4 189 yX4_wants, Cond.instanceMethod yX4_wants, Cond.selects RX4 yX4_wants yX4_wants, Cond.code yX4_wants cX4_wants 2 none, Cond.methodLink RX4 193 yX4_figure, Cond.instanceMethod yX4_figure, Cond.selects RX4 yX4_figure yX4_figure, Cond.code yX4_figure cX4_figure 4 (some .int), Cond.methodLink RX4 50 yX4_in]
def wsX4_errorPosition_r2 : List Cond := [Cond.static yX4_in, Cond.code yX4_in cX4_in 3 (some .boolean), Cond.methodLink RX4 196 yX4_size, Cond.instanceMethod yX4_size, Cond.selects RX4 yX4_size yX4_size, Cond.code yX4_size cX4_size 2 (some .int), Cond.methodLink RX4 199 yX4_days, Cond.instanceMethod yX4_days, Cond.selects RX4 yX4_days yX4_days, Cond.code yX4_days cX4_days 3 (some .int)]
def wsX4_errorPosition : List Cond := .code yX4_errorPosition cX4_errorPosition 2 (some .int) :: ((wsX4_errorPosition_r1 ++ wsX4_errorPosition_r2) ++ wsX40)
def wsX4_executeOne_r1 : List Cond := [Cond.fieldLink RX4 33 "ParcelShelvesModel" "told" "[I", Cond.methodLink RX4 102 yX4_whyNotCome, Cond.instanceMethod yX4_whyNotCome, Cond.selects RX4 yX4_whyNotCome yX4_whyNotCome, Cond.initialized RX4, Cond.code yX4_whyNotCome cX4_whyNotCome 3 (some .int), Cond.methodLink RX4 86 yX4_isSender, Cond.static yX4_isSender, Cond.code yX4_isSender cX4_isSender 1 (some .boolean), Cond.methodLink RX4 50 yX4_in, Cond.static yX4_in, Cond.code yX4_in cX4_in 3 (some .boolean), Cond.methodLink RX4 89 yX4_firstPlace, Cond.instanceMethod yX4_firstPlace, Cond.selects RX4 yX4_firstPlace yX4_firstPlace, Cond.code yX4_firstPlace cX4_firstPlace 4 (some .int), Cond.methodLink RX4 69 yX4_isTaken, Cond.instanceMethod yX4_isTaken, Cond.selects RX4 yX4_isTaken yX4_isTaken, Cond.code yX4_isTaken cX4_isTaken 2 (some .boolean), Cond.methodLink RX4 58 yX4_at, Cond.instanceMethod yX4_at, Cond.selects RX4 yX4_at yX4_at, Cond.code yX4_at cX4_at 3 (some .int)]
def wsX4_executeOne_r2 : List Cond := [Cond.fieldLink RX4 7 "ParcelShelvesModel" "z" "[I", Cond.methodLink RX4 79 yX4_rests, Cond.instanceMethod yX4_rests, Cond.selects RX4 yX4_rests yX4_rests, Cond.code yX4_rests cX4_rests 2 (some .boolean), Cond.methodLink RX4 73 yX4_weekday, Cond.static yX4_weekday, Cond.code yX4_weekday cX4_weekday 1 (some .int), Cond.methodLink RX4 76 yX4_restsOf, Cond.instanceMethod yX4_restsOf, Cond.selects RX4 yX4_restsOf yX4_restsOf, Cond.code yX4_restsOf cX4_restsOf 3 (some .int), Cond.methodLink RX4 92 yX4_refusePlace, Cond.instanceMethod yX4_refusePlace, Cond.selects RX4 yX4_refusePlace yX4_refusePlace, Cond.code yX4_refusePlace cX4_refusePlace 5 (some .int), Cond.methodLink RX4 82 yX4_refuseBy, Cond.instanceMethod yX4_refuseBy, Cond.selects RX4 yX4_refuseBy yX4_refuseBy, Cond.code yX4_refuseBy cX4_refuseBy 4 (some .int), Cond.fieldLink RX4 22 "ParcelShelvesModel" "reason" "I", Cond.fieldLink RX4 26 "ParcelShelvesModel" "behind" "I", Cond.methodLink RX4 105 yX4_comes, Cond.instanceMethod yX4_comes]
def wsX4_executeOne_r3 : List Cond := [Cond.selects RX4 yX4_comes yX4_comes, Cond.code yX4_comes cX4_comes 4 (some .int), Cond.methodLink RX4 95 yX4_lay, Cond.instanceMethod yX4_lay, Cond.selects RX4 yX4_lay yX4_lay, Cond.code yX4_lay cX4_lay 6 none, Cond.methodLink RX4 99 yX4_codeOn, Cond.instanceMethod yX4_codeOn, Cond.selects RX4 yX4_codeOn yX4_codeOn, Cond.code yX4_codeOn cX4_codeOn 2 (some .int), Cond.methodLink RX4 62 yX4_codeBy, Cond.static yX4_codeBy, Cond.code yX4_codeBy cX4_codeBy 3 (some .int), Cond.methodLink RX4 126 yX4_whyNotFetch, Cond.instanceMethod yX4_whyNotFetch, Cond.selects RX4 yX4_whyNotFetch yX4_whyNotFetch, Cond.code yX4_whyNotFetch cX4_whyNotFetch 2 (some .int), Cond.methodLink RX4 108 yX4_isLocked, Cond.instanceMethod yX4_isLocked, Cond.selects RX4 yX4_isLocked yX4_isLocked, Cond.code yX4_isLocked cX4_isLocked 1 (some .boolean), Cond.methodLink RX4 129 yX4_fetches, Cond.instanceMethod yX4_fetches, Cond.selects RX4 yX4_fetches yX4_fetches]
def wsX4_executeOne_r4 : List Cond := [Cond.code yX4_fetches cX4_fetches 4 (some .int), Cond.methodLink RX4 112 yX4_placeBy, Cond.instanceMethod yX4_placeBy, Cond.selects RX4 yX4_placeBy yX4_placeBy, Cond.code yX4_placeBy cX4_placeBy 4 (some .int), Cond.methodLink RX4 65 yX4_indexOf, Cond.static yX4_indexOf, Cond.code yX4_indexOf cX4_indexOf 5 (some .int), Cond.methodLink RX4 115 yX4_feeOn, Cond.instanceMethod yX4_feeOn, Cond.selects RX4 yX4_feeOn yX4_feeOn, Cond.code yX4_feeOn cX4_feeOn 4 (some .int), Cond.methodLink RX4 118 yX4_count, Cond.instanceMethod yX4_count, Cond.selects RX4 yX4_count yX4_count, Cond.code yX4_count cX4_count 4 none, Cond.methodLink RX4 122 yX4_leave, Cond.instanceMethod yX4_leave, Cond.selects RX4 yX4_leave yX4_leave, Cond.code yX4_leave cX4_leave 2 none, Cond.methodLink RX4 138 yX4_whyNotRefuse, Cond.instanceMethod yX4_whyNotRefuse, Cond.selects RX4 yX4_whyNotRefuse yX4_whyNotRefuse, Cond.code yX4_whyNotRefuse cX4_whyNotRefuse 3 (some .int)]
def wsX4_executeOne_r5 : List Cond := [Cond.methodLink RX4 132 yX4_refuseCode, Cond.instanceMethod yX4_refuseCode, Cond.selects RX4 yX4_refuseCode yX4_refuseCode, Cond.code yX4_refuseCode cX4_refuseCode 2 (some .int), Cond.methodLink RX4 135 yX4_ofSender, Cond.instanceMethod yX4_ofSender, Cond.selects RX4 yX4_ofSender yX4_ofSender, Cond.code yX4_ofSender cX4_ofSender 3 (some .int), Cond.methodLink RX4 141 yX4_goesBack, Cond.instanceMethod yX4_goesBack, Cond.selects RX4 yX4_goesBack yX4_goesBack, Cond.code yX4_goesBack cX4_goesBack 3 (some .int), Cond.methodLink RX4 144 yX4_whyNotMove, Cond.instanceMethod yX4_whyNotMove, Cond.selects RX4 yX4_whyNotMove yX4_whyNotMove, Cond.code yX4_whyNotMove cX4_whyNotMove 4 (some .int), Cond.methodLink RX4 147 yX4_moves, Cond.instanceMethod yX4_moves, Cond.selects RX4 yX4_moves yX4_moves, Cond.code yX4_moves cX4_moves 5 (some .int), Cond.methodLink RX4 156 yX4_whyNotPass, Cond.instanceMethod yX4_whyNotPass, Cond.selects RX4 yX4_whyNotPass yX4_whyNotPass, Cond.code yX4_whyNotPass cX4_whyNotPass 2 (some .int)]
def wsX4_executeOne_r6 : List Cond := [Cond.methodLink RX4 159 yX4_passes, Cond.instanceMethod yX4_passes, Cond.selects RX4 yX4_passes yX4_passes, Cond.code yX4_passes cX4_passes 4 (some .int), Cond.methodLink RX4 153 yX4_begins, Cond.instanceMethod yX4_begins, Cond.selects RX4 yX4_begins yX4_begins, Cond.code yX4_begins cX4_begins 3 (some .int), Cond.methodLink RX4 150 yX4_takes, Cond.instanceMethod yX4_takes, Cond.selects RX4 yX4_takes yX4_takes, Cond.code yX4_takes cX4_takes 5 (some .int)]
def wsX4_executeOne : List Cond := .code yX4_executeOne cX4_executeOne 5 (some .int) :: ((wsX4_executeOne_r1 ++ (wsX4_executeOne_r2 ++ (wsX4_executeOne_r3 ++ (wsX4_executeOne_r4 ++ (wsX4_executeOne_r5 ++ wsX4_executeOne_r6))))) ++ wsX40)
def wsX4_execute_r1 : List Cond := [Cond.fieldLink RX4 202 "ParcelShelvesModel" "toldMany" "I", Cond.fieldLink RX4 177 "ParcelShelvesModel" "typed" "I", Cond.methodLink RX4 208 yX4_errorPosition, Cond.instanceMethod yX4_errorPosition, Cond.selects RX4 yX4_errorPosition yX4_errorPosition, Cond.initialized RX4, Cond.code yX4_errorPosition cX4_errorPosition 2 (some .int), Cond.fieldLink RX4 180 "ParcelShelvesModel" "spot" "I", Cond.fieldLink RX4 183 "ParcelShelvesModel" "wrong" "I", Cond.methodLink RX4 205 yX4_readCommand, Cond.instanceMethod yX4_readCommand, Cond.selects RX4 yX4_readCommand yX4_readCommand, Cond.code yX4_readCommand cX4_readCommand 5 none, Cond.fieldLink RX4 33 "ParcelShelvesModel" "told" "[I", Cond.methodLink RX4 186 yX4_letter, Cond.instanceMethod yX4_letter, Cond.selects RX4 yX4_letter yX4_letter, Cond.code yX4_letter cX4_letter 1 (some .int), Cond.fieldLink RX4 29 "ParcelShelvesModel" "buffer" "[C", Cond.methodLink RX4 189 yX4_wants, Cond.instanceMethod yX4_wants, Cond.selects RX4 yX4_wants yX4_wants, Cond.code yX4_wants cX4_wants 2 none, Cond.methodLink RX4 193 yX4_figure]
def wsX4_execute_r2 : List Cond := [Cond.instanceMethod yX4_figure, Cond.selects RX4 yX4_figure yX4_figure, Cond.code yX4_figure cX4_figure 4 (some .int), Cond.methodLink RX4 50 yX4_in, Cond.static yX4_in, Cond.code yX4_in cX4_in 3 (some .boolean), Cond.methodLink RX4 196 yX4_size, Cond.instanceMethod yX4_size, Cond.selects RX4 yX4_size yX4_size, Cond.code yX4_size cX4_size 2 (some .int), Cond.methodLink RX4 199 yX4_days, Cond.instanceMethod yX4_days, Cond.selects RX4 yX4_days yX4_days, Cond.code yX4_days cX4_days 3 (some .int), Cond.methodLink RX4 47 yX4_record, Cond.instanceMethod yX4_record, Cond.selects RX4 yX4_record yX4_record, Cond.code yX4_record cX4_record 2 none, Cond.fieldLink RX4 36 "ParcelShelvesModel" "pastMany" "I", Cond.fieldLink RX4 13 "ParcelShelvesModel" "past" "[I", Cond.fieldLink RX4 7 "ParcelShelvesModel" "z" "[I", Cond.methodLink RX4 211 yX4_executeOne, Cond.instanceMethod yX4_executeOne, Cond.selects RX4 yX4_executeOne yX4_executeOne]
def wsX4_execute_r3 : List Cond := [Cond.code yX4_executeOne cX4_executeOne 5 (some .int), Cond.methodLink RX4 102 yX4_whyNotCome, Cond.instanceMethod yX4_whyNotCome, Cond.selects RX4 yX4_whyNotCome yX4_whyNotCome, Cond.code yX4_whyNotCome cX4_whyNotCome 3 (some .int), Cond.methodLink RX4 86 yX4_isSender, Cond.static yX4_isSender, Cond.code yX4_isSender cX4_isSender 1 (some .boolean), Cond.methodLink RX4 89 yX4_firstPlace, Cond.instanceMethod yX4_firstPlace, Cond.selects RX4 yX4_firstPlace yX4_firstPlace, Cond.code yX4_firstPlace cX4_firstPlace 4 (some .int), Cond.methodLink RX4 69 yX4_isTaken, Cond.instanceMethod yX4_isTaken, Cond.selects RX4 yX4_isTaken yX4_isTaken, Cond.code yX4_isTaken cX4_isTaken 2 (some .boolean), Cond.methodLink RX4 58 yX4_at, Cond.instanceMethod yX4_at, Cond.selects RX4 yX4_at yX4_at, Cond.code yX4_at cX4_at 3 (some .int), Cond.methodLink RX4 79 yX4_rests, Cond.instanceMethod yX4_rests, Cond.selects RX4 yX4_rests yX4_rests, Cond.code yX4_rests cX4_rests 2 (some .boolean)]
def wsX4_execute_r4 : List Cond := [Cond.methodLink RX4 73 yX4_weekday, Cond.static yX4_weekday, Cond.code yX4_weekday cX4_weekday 1 (some .int), Cond.methodLink RX4 76 yX4_restsOf, Cond.instanceMethod yX4_restsOf, Cond.selects RX4 yX4_restsOf yX4_restsOf, Cond.code yX4_restsOf cX4_restsOf 3 (some .int), Cond.methodLink RX4 92 yX4_refusePlace, Cond.instanceMethod yX4_refusePlace, Cond.selects RX4 yX4_refusePlace yX4_refusePlace, Cond.code yX4_refusePlace cX4_refusePlace 5 (some .int), Cond.methodLink RX4 82 yX4_refuseBy, Cond.instanceMethod yX4_refuseBy, Cond.selects RX4 yX4_refuseBy yX4_refuseBy, Cond.code yX4_refuseBy cX4_refuseBy 4 (some .int), Cond.fieldLink RX4 22 "ParcelShelvesModel" "reason" "I", Cond.fieldLink RX4 26 "ParcelShelvesModel" "behind" "I", Cond.methodLink RX4 105 yX4_comes, Cond.instanceMethod yX4_comes, Cond.selects RX4 yX4_comes yX4_comes, Cond.code yX4_comes cX4_comes 4 (some .int), Cond.methodLink RX4 95 yX4_lay, Cond.instanceMethod yX4_lay, Cond.selects RX4 yX4_lay yX4_lay]
def wsX4_execute_r5 : List Cond := [Cond.code yX4_lay cX4_lay 6 none, Cond.methodLink RX4 99 yX4_codeOn, Cond.instanceMethod yX4_codeOn, Cond.selects RX4 yX4_codeOn yX4_codeOn, Cond.code yX4_codeOn cX4_codeOn 2 (some .int), Cond.methodLink RX4 62 yX4_codeBy, Cond.static yX4_codeBy, Cond.code yX4_codeBy cX4_codeBy 3 (some .int), Cond.methodLink RX4 126 yX4_whyNotFetch, Cond.instanceMethod yX4_whyNotFetch, Cond.selects RX4 yX4_whyNotFetch yX4_whyNotFetch, Cond.code yX4_whyNotFetch cX4_whyNotFetch 2 (some .int), Cond.methodLink RX4 108 yX4_isLocked, Cond.instanceMethod yX4_isLocked, Cond.selects RX4 yX4_isLocked yX4_isLocked, Cond.code yX4_isLocked cX4_isLocked 1 (some .boolean), Cond.methodLink RX4 129 yX4_fetches, Cond.instanceMethod yX4_fetches, Cond.selects RX4 yX4_fetches yX4_fetches, Cond.code yX4_fetches cX4_fetches 4 (some .int), Cond.methodLink RX4 112 yX4_placeBy, Cond.instanceMethod yX4_placeBy, Cond.selects RX4 yX4_placeBy yX4_placeBy, Cond.code yX4_placeBy cX4_placeBy 4 (some .int)]
def wsX4_execute_r6 : List Cond := [Cond.methodLink RX4 65 yX4_indexOf, Cond.static yX4_indexOf, Cond.code yX4_indexOf cX4_indexOf 5 (some .int), Cond.methodLink RX4 115 yX4_feeOn, Cond.instanceMethod yX4_feeOn, Cond.selects RX4 yX4_feeOn yX4_feeOn, Cond.code yX4_feeOn cX4_feeOn 4 (some .int), Cond.methodLink RX4 118 yX4_count, Cond.instanceMethod yX4_count, Cond.selects RX4 yX4_count yX4_count, Cond.code yX4_count cX4_count 4 none, Cond.methodLink RX4 122 yX4_leave, Cond.instanceMethod yX4_leave, Cond.selects RX4 yX4_leave yX4_leave, Cond.code yX4_leave cX4_leave 2 none, Cond.methodLink RX4 138 yX4_whyNotRefuse, Cond.instanceMethod yX4_whyNotRefuse, Cond.selects RX4 yX4_whyNotRefuse yX4_whyNotRefuse, Cond.code yX4_whyNotRefuse cX4_whyNotRefuse 3 (some .int), Cond.methodLink RX4 132 yX4_refuseCode, Cond.instanceMethod yX4_refuseCode, Cond.selects RX4 yX4_refuseCode yX4_refuseCode, Cond.code yX4_refuseCode cX4_refuseCode 2 (some .int), Cond.methodLink RX4 135 yX4_ofSender]
def wsX4_execute_r7 : List Cond := [Cond.instanceMethod yX4_ofSender, Cond.selects RX4 yX4_ofSender yX4_ofSender, Cond.code yX4_ofSender cX4_ofSender 3 (some .int), Cond.methodLink RX4 141 yX4_goesBack, Cond.instanceMethod yX4_goesBack, Cond.selects RX4 yX4_goesBack yX4_goesBack, Cond.code yX4_goesBack cX4_goesBack 3 (some .int), Cond.methodLink RX4 144 yX4_whyNotMove, Cond.instanceMethod yX4_whyNotMove, Cond.selects RX4 yX4_whyNotMove yX4_whyNotMove, Cond.code yX4_whyNotMove cX4_whyNotMove 4 (some .int), Cond.methodLink RX4 147 yX4_moves, Cond.instanceMethod yX4_moves, Cond.selects RX4 yX4_moves yX4_moves, Cond.code yX4_moves cX4_moves 5 (some .int), Cond.methodLink RX4 156 yX4_whyNotPass, Cond.instanceMethod yX4_whyNotPass, Cond.selects RX4 yX4_whyNotPass yX4_whyNotPass, Cond.code yX4_whyNotPass cX4_whyNotPass 2 (some .int), Cond.methodLink RX4 159 yX4_passes, Cond.instanceMethod yX4_passes, Cond.selects RX4 yX4_passes yX4_passes, Cond.code yX4_passes cX4_passes 4 (some .int), Cond.methodLink RX4 153 yX4_begins]
def wsX4_execute_r8 : List Cond := [Cond.instanceMethod yX4_begins, Cond.selects RX4 yX4_begins yX4_begins, Cond.code yX4_begins cX4_begins 3 (some .int), Cond.methodLink RX4 150 yX4_takes, Cond.instanceMethod yX4_takes, Cond.selects RX4 yX4_takes yX4_takes, Cond.code yX4_takes cX4_takes 5 (some .int)]
def wsX4_execute : List Cond := .code yX4_execute cX4_execute 2 (some .int) :: ((wsX4_execute_r1 ++ (wsX4_execute_r2 ++ (wsX4_execute_r3 ++ (wsX4_execute_r4 ++ (wsX4_execute_r5 ++ (wsX4_execute_r6 ++ (wsX4_execute_r7 ++ wsX4_execute_r8))))))) ++ wsX40)
def wsJ9_max_7cf53 : List Cond := .code yJ9_max_7cf53 cJ9_max_7cf53 2 (some .int) :: ([])
def wsL_law_r1 : List Cond := [Cond.classLink RL 7 RX3, Cond.instantiable RX3 8, Cond.initialized RX3, Cond.classLink RL 10 RX4, Cond.instantiable RX4 14, Cond.initialized RX4, Cond.methodLink RL 9 yX3_init, Cond.instanceMethod yX3_init, Cond.code yX3_init cX3_init 1 none, Cond.methodLink RX3 3 objectInit, Cond.instanceMethod objectInit, Cond.code objectInit ⟨#[0xb1]⟩ 1 none, Cond.classLink RX3 9 RX1, Cond.instantiable RX1 14, Cond.initialized RX1, Cond.fieldLink RX3 12 "ParcelShelves" "now" "LParcelShelves$Shop;", Cond.fieldLink RX3 16 "ParcelShelves" "saved" "LParcelShelves$Shop;", Cond.fieldLink RX3 19 "ParcelShelves" "ahead" "LParcelShelves$Shop;", Cond.classLink RX3 22 RX0, Cond.instantiable RX0 3, Cond.initialized RX0, Cond.fieldLink RX3 25 "ParcelShelves" "history" "LParcelShelves$History;", Cond.classLink RX3 29 RX2, Cond.instantiable RX2 2]
def wsL_law_r2 : List Cond := [Cond.initialized RX2, Cond.fieldLink RX3 32 "ParcelShelves" "text" "LParcelShelves$Text;", Cond.fieldLink RX3 36 "ParcelShelves" "isSaved" "Z", Cond.fieldLink RX3 40 "ParcelShelves" "reason" "I", Cond.fieldLink RX3 44 "ParcelShelves" "behind" "I", Cond.methodLink RX3 11 yX1_init, Cond.instanceMethod yX1_init, Cond.code yX1_init cX1_init 1 none, Cond.methodLink RX1 3 objectInit, Cond.arrayClass .int, Cond.fieldLink RX1 9 "ParcelShelves$Shop" "settings" "[I", Cond.fieldLink RX1 15 "ParcelShelves$Shop" "weekdays" "[I", Cond.fieldLink RX1 18 "ParcelShelves$Shop" "senders" "[I", Cond.fieldLink RX1 21 "ParcelShelves$Shop" "sizes" "[I", Cond.fieldLink RX1 24 "ParcelShelves$Shop" "cameOn" "[I", Cond.fieldLink RX1 27 "ParcelShelves$Shop" "leftOn" "[I", Cond.fieldLink RX1 30 "ParcelShelves$Shop" "bins" "[I", Cond.fieldLink RX1 33 "ParcelShelves$Shop" "charged" "[I", Cond.fieldLink RX1 36 "ParcelShelves$Shop" "fetched" "[I", Cond.fieldLink RX1 39 "ParcelShelves$Shop" "taken" "[I", Cond.methodLink RX1 45 arraycopyName, Cond.native arraycopyName, Cond.static arraycopyName, Cond.initialized "java/lang/System"]
def wsL_law_r3 : List Cond := [Cond.methodLink RX1 51 yJ7_fill_53178, Cond.static yJ7_fill_53178, Cond.initialized RJ7, Cond.code yJ7_fill_53178 cJ7_fill_53178 4 none, Cond.methodLink RX3 24 yX0_init, Cond.instanceMethod yX0_init, Cond.code yX0_init cX0_init 2 none, Cond.methodLink RX0 3 objectInit, Cond.classLink RX0 9 RX1, Cond.fieldLink RX0 11 "ParcelShelves$History" "rows" "[LParcelShelves$Shop;", Cond.methodLink RX0 15 yX1_init, Cond.instanceMethod yX2_init, Cond.code yX2_init cX2_init 1 none, Cond.methodLink RX2 5 objectInit, Cond.arrayClass .char, Cond.fieldLink RX2 11 "ParcelShelves$Text" "signs" "[C", Cond.methodLink RL 12 yX4_init, Cond.instanceMethod yX4_init, Cond.code yX4_init cX4_init 2 none, Cond.methodLink RX4 1 objectInit, Cond.fieldLink RX4 7 "ParcelShelvesModel" "z" "[I", Cond.fieldLink RX4 13 "ParcelShelvesModel" "past" "[I", Cond.fieldLink RX4 16 "ParcelShelvesModel" "kept" "[I", Cond.fieldLink RX4 19 "ParcelShelvesModel" "aside" "[I"]
def wsL_law_r4 : List Cond := [Cond.fieldLink RX4 22 "ParcelShelvesModel" "reason" "I", Cond.fieldLink RX4 26 "ParcelShelvesModel" "behind" "I", Cond.fieldLink RX4 29 "ParcelShelvesModel" "buffer" "[C", Cond.fieldLink RX4 33 "ParcelShelvesModel" "told" "[I", Cond.methodLink RL 13 yX3_set, Cond.instanceMethod yX3_set, Cond.selects RX3 yX3_set yX3_set, Cond.code yX3_set cX3_set 3 (some .int), Cond.methodLink RX3 47 yX0_prepare, Cond.instanceMethod yX0_prepare, Cond.selects RX0 yX0_prepare yX0_prepare, Cond.code yX0_prepare cX0_prepare 2 none, Cond.fieldLink RX0 16 "ParcelShelves$History" "oldest" "I", Cond.fieldLink RX0 20 "ParcelShelves$History" "count" "I", Cond.methodLink RX0 23 yX1_copyFrom, Cond.instanceMethod yX1_copyFrom, Cond.selects RX1 yX1_copyFrom yX1_copyFrom, Cond.code yX1_copyFrom cX1_copyFrom 2 none, Cond.fieldLink RX1 57 "ParcelShelves$Shop" "today" "I", Cond.fieldLink RX1 61 "ParcelShelves$Shop" "wrongCodes" "I", Cond.fieldLink RX1 64 "ParcelShelves$Shop" "cameSoFar" "I", Cond.fieldLink RX1 67 "ParcelShelves$Shop" "feesPaid" "I", Cond.methodLink RX3 51 yX3_changeSetting, Cond.instanceMethod yX3_changeSetting]
def wsL_law_r5 : List Cond := [Cond.selects RX3 yX3_changeSetting yX3_changeSetting, Cond.code yX3_changeSetting cX3_changeSetting 4 (some .int), Cond.fieldLink RX3 221 "ParcelShelves" "LOWEST" "[I", Cond.fieldLink RX3 224 "ParcelShelves" "HIGHEST" "[I", Cond.fieldLink RX3 63 "ParcelShelves$Shop" "settings" "[I", Cond.methodLink RX3 59 yX3_isWithin, Cond.static yX3_isWithin, Cond.code yX3_isWithin cX3_isWithin 3 (some .boolean), Cond.methodLink RX3 55 yX3_recorded, Cond.instanceMethod yX3_recorded, Cond.selects RX3 yX3_recorded yX3_recorded, Cond.code yX3_recorded cX3_recorded 2 (some .int), Cond.methodLink RX3 211 yX3_isError, Cond.static yX3_isError, Cond.code yX3_isError cX3_isError 1 (some .boolean), Cond.methodLink RX3 261 yX0_keepPrepared, Cond.instanceMethod yX0_keepPrepared, Cond.selects RX0 yX0_keepPrepared yX0_keepPrepared, Cond.code yX0_keepPrepared cX0_keepPrepared 1 none, Cond.methodLink RL 17 yX4_set, Cond.instanceMethod yX4_set, Cond.selects RX4 yX4_set yX4_set, Cond.code yX4_set cX4_set 4 (some .int), Cond.methodLink RX4 54 yX4_isInRange]
def wsL_law_r6 : List Cond := [Cond.static yX4_isInRange, Cond.code yX4_isInRange cX4_isInRange 2 (some .boolean), Cond.methodLink RX4 50 yX4_in, Cond.static yX4_in, Cond.code yX4_in cX4_in 3 (some .boolean), Cond.methodLink RX4 47 yX4_record, Cond.instanceMethod yX4_record, Cond.selects RX4 yX4_record yX4_record, Cond.code yX4_record cX4_record 2 none, Cond.fieldLink RX4 36 "ParcelShelvesModel" "pastMany" "I", Cond.methodLink RL 18 yX3_setting, Cond.instanceMethod yX3_setting, Cond.selects RX3 yX3_setting yX3_setting, Cond.code yX3_setting cX3_setting 2 (some .int), Cond.methodLink RL 22 yX4_setting, Cond.instanceMethod yX4_setting, Cond.selects RX4 yX4_setting yX4_setting, Cond.code yX4_setting cX4_setting 2 (some .int), Cond.methodLink RL 23 yX3_come, Cond.instanceMethod yX3_come, Cond.selects RX3 yX3_come yX3_come, Cond.code yX3_come cX3_come 3 (some .int), Cond.methodLink RX3 67 yX3_letCome, Cond.instanceMethod yX3_letCome]
def wsL_law_r7 : List Cond := [Cond.selects RX3 yX3_letCome yX3_letCome, Cond.code yX3_letCome cX3_letCome 4 (some .int), Cond.fieldLink RX3 85 "ParcelShelves$Shop" "today" "I", Cond.fieldLink RX3 146 "ParcelShelves$Shop" "cameSoFar" "I", Cond.methodLink RX3 177 yX3_firstShelfFor, Cond.static yX3_firstShelfFor, Cond.code yX3_firstShelfFor cX3_firstShelfFor 1 (some .int), Cond.methodLink RX3 180 yX1_placeToGive, Cond.instanceMethod yX1_placeToGive, Cond.selects RX1 yX1_placeToGive yX1_placeToGive, Cond.code yX1_placeToGive cX1_placeToGive 5 (some .int), Cond.methodLink RX1 88 yX1_isFree, Cond.instanceMethod yX1_isFree, Cond.selects RX1 yX1_isFree yX1_isFree, Cond.code yX1_isFree cX1_isFree 2 (some .boolean), Cond.methodLink RX1 91 yX1_restsToday, Cond.instanceMethod yX1_restsToday, Cond.selects RX1 yX1_restsToday yX1_restsToday, Cond.code yX1_restsToday cX1_restsToday 2 (some .boolean), Cond.static yX3_weekdayOf, Cond.code yX3_weekdayOf cX3_weekdayOf 1 (some .int), Cond.static yX3_indexFor, Cond.code yX3_indexFor cX3_indexFor 2 (some .int), Cond.methodLink RX1 81 yX1_rests]
def wsL_law_r8 : List Cond := [Cond.instanceMethod yX1_rests, Cond.selects RX1 yX1_rests yX1_rests, Cond.code yX1_rests cX1_rests 2 (some .boolean), Cond.methodLink RX3 227 yX3_refuseForNoPlace, Cond.instanceMethod yX3_refuseForNoPlace, Cond.selects RX3 yX3_refuseForNoPlace yX3_refuseForNoPlace, Cond.code yX3_refuseForNoPlace cX3_refuseForNoPlace 4 none, Cond.methodLink RX3 264 yX1_hasFreePlace, Cond.instanceMethod yX1_hasFreePlace, Cond.selects RX1 yX1_hasFreePlace yX1_hasFreePlace, Cond.code yX1_hasFreePlace cX1_hasFreePlace 5 (some .boolean), Cond.methodLink RX3 235 yX3_refuseFor, Cond.instanceMethod yX3_refuseFor, Cond.selects RX3 yX3_refuseFor yX3_refuseFor, Cond.code yX3_refuseFor cX3_refuseFor 3 none, Cond.methodLink RX3 231 yX1_put, Cond.instanceMethod yX1_put, Cond.selects RX1 yX1_put yX1_put, Cond.code yX1_put cX1_put 5 none, Cond.methodLink RX3 111 yX1_codeOn, Cond.instanceMethod yX1_codeOn, Cond.selects RX1 yX1_codeOn yX1_codeOn, Cond.code yX1_codeOn cX1_codeOn 2 (some .int), Cond.static yX3_codeFor]
def wsL_law_r9 : List Cond := [Cond.code yX3_codeFor cX3_codeFor 4 (some .int), Cond.methodLink RX3 267 yX3_checkDigit, Cond.static yX3_checkDigit, Cond.code yX3_checkDigit cX3_checkDigit 3 (some .int), Cond.methodLink RL 26 yX4_come, Cond.instanceMethod yX4_come, Cond.selects RX4 yX4_come yX4_come, Cond.code yX4_come cX4_come 4 (some .int), Cond.methodLink RX4 102 yX4_whyNotCome, Cond.instanceMethod yX4_whyNotCome, Cond.selects RX4 yX4_whyNotCome yX4_whyNotCome, Cond.code yX4_whyNotCome cX4_whyNotCome 3 (some .int), Cond.methodLink RX4 86 yX4_isSender, Cond.static yX4_isSender, Cond.code yX4_isSender cX4_isSender 1 (some .boolean), Cond.methodLink RX4 89 yX4_firstPlace, Cond.instanceMethod yX4_firstPlace, Cond.selects RX4 yX4_firstPlace yX4_firstPlace, Cond.code yX4_firstPlace cX4_firstPlace 4 (some .int), Cond.methodLink RX4 69 yX4_isTaken, Cond.instanceMethod yX4_isTaken, Cond.selects RX4 yX4_isTaken yX4_isTaken, Cond.code yX4_isTaken cX4_isTaken 2 (some .boolean), Cond.methodLink RX4 58 yX4_at]
def wsL_law_r10 : List Cond := [Cond.instanceMethod yX4_at, Cond.selects RX4 yX4_at yX4_at, Cond.code yX4_at cX4_at 3 (some .int), Cond.methodLink RX4 79 yX4_rests, Cond.instanceMethod yX4_rests, Cond.selects RX4 yX4_rests yX4_rests, Cond.code yX4_rests cX4_rests 2 (some .boolean), Cond.methodLink RX4 73 yX4_weekday, Cond.static yX4_weekday, Cond.code yX4_weekday cX4_weekday 1 (some .int), Cond.methodLink RX4 76 yX4_restsOf, Cond.instanceMethod yX4_restsOf, Cond.selects RX4 yX4_restsOf yX4_restsOf, Cond.code yX4_restsOf cX4_restsOf 3 (some .int), Cond.methodLink RX4 92 yX4_refusePlace, Cond.instanceMethod yX4_refusePlace, Cond.selects RX4 yX4_refusePlace yX4_refusePlace, Cond.code yX4_refusePlace cX4_refusePlace 5 (some .int), Cond.methodLink RX4 82 yX4_refuseBy, Cond.instanceMethod yX4_refuseBy, Cond.selects RX4 yX4_refuseBy yX4_refuseBy, Cond.code yX4_refuseBy cX4_refuseBy 4 (some .int), Cond.methodLink RX4 105 yX4_comes, Cond.instanceMethod yX4_comes]
def wsL_law_r11 : List Cond := [Cond.selects RX4 yX4_comes yX4_comes, Cond.code yX4_comes cX4_comes 4 (some .int), Cond.methodLink RX4 95 yX4_lay, Cond.instanceMethod yX4_lay, Cond.selects RX4 yX4_lay yX4_lay, Cond.code yX4_lay cX4_lay 6 none, Cond.methodLink RX4 99 yX4_codeOn, Cond.instanceMethod yX4_codeOn, Cond.selects RX4 yX4_codeOn yX4_codeOn, Cond.code yX4_codeOn cX4_codeOn 2 (some .int), Cond.methodLink RX4 62 yX4_codeBy, Cond.static yX4_codeBy, Cond.code yX4_codeBy cX4_codeBy 3 (some .int), Cond.methodLink RL 27 yX3_fetch, Cond.instanceMethod yX3_fetch, Cond.selects RX3 yX3_fetch yX3_fetch, Cond.code yX3_fetch cX3_fetch 2 (some .int), Cond.methodLink RX3 70 yX3_letFetch, Cond.instanceMethod yX3_letFetch, Cond.selects RX3 yX3_letFetch yX3_letFetch, Cond.code yX3_letFetch cX3_letFetch 4 (some .int), Cond.fieldLink RX3 152 "ParcelShelves$Shop" "wrongCodes" "I", Cond.fieldLink RX3 149 "ParcelShelves$Shop" "feesPaid" "I", Cond.fieldLink RX3 132 "ParcelShelves$Shop" "fetched" "[I"]
def wsL_law_r12 : List Cond := [Cond.fieldLink RX3 91 "ParcelShelves$Shop" "senders" "[I", Cond.methodLink RX3 155 yX1_isLocked, Cond.instanceMethod yX1_isLocked, Cond.selects RX1 yX1_isLocked yX1_isLocked, Cond.code yX1_isLocked cX1_isLocked 1 (some .boolean), Cond.methodLink RX3 88 yX1_placeWith, Cond.instanceMethod yX1_placeWith, Cond.selects RX1 yX1_placeWith yX1_placeWith, Cond.code yX1_placeWith cX1_placeWith 4 (some .int), Cond.static yX3_indexOfCode, Cond.code yX3_indexOfCode cX3_indexOfCode 4 (some .int), Cond.methodLink RX3 103 yX3_isPlace, Cond.static yX3_isPlace, Cond.code yX3_isPlace cX3_isPlace 2 (some .boolean), Cond.methodLink RX3 271 yX3_indexFor, Cond.methodLink RX3 100 yX1_feeAfter, Cond.instanceMethod yX1_feeAfter, Cond.selects RX1 yX1_feeAfter yX1_feeAfter, Cond.code yX1_feeAfter cX1_feeAfter 5 (some .int), Cond.methodLink RX1 94 Lib.Math.max.name, Cond.static Lib.Math.max.name, Cond.initialized "java/lang/Math", Cond.code Lib.Math.max.name Lib.Math.max.code 2 (some .int), Cond.methodLink RX3 238 yX1_leave]
def wsL_law_r13 : List Cond := [Cond.instanceMethod yX1_leave, Cond.selects RX1 yX1_leave yX1_leave, Cond.code yX1_leave cX1_leave 2 none, Cond.methodLink RL 30 yX4_fetch, Cond.instanceMethod yX4_fetch, Cond.selects RX4 yX4_fetch yX4_fetch, Cond.code yX4_fetch cX4_fetch 3 (some .int), Cond.methodLink RX4 126 yX4_whyNotFetch, Cond.instanceMethod yX4_whyNotFetch, Cond.selects RX4 yX4_whyNotFetch yX4_whyNotFetch, Cond.code yX4_whyNotFetch cX4_whyNotFetch 2 (some .int), Cond.methodLink RX4 108 yX4_isLocked, Cond.instanceMethod yX4_isLocked, Cond.selects RX4 yX4_isLocked yX4_isLocked, Cond.code yX4_isLocked cX4_isLocked 1 (some .boolean), Cond.methodLink RX4 129 yX4_fetches, Cond.instanceMethod yX4_fetches, Cond.selects RX4 yX4_fetches yX4_fetches, Cond.code yX4_fetches cX4_fetches 4 (some .int), Cond.methodLink RX4 112 yX4_placeBy, Cond.instanceMethod yX4_placeBy, Cond.selects RX4 yX4_placeBy yX4_placeBy, Cond.code yX4_placeBy cX4_placeBy 4 (some .int), Cond.methodLink RX4 65 yX4_indexOf]
def wsL_law_r14 : List Cond := [Cond.static yX4_indexOf, Cond.code yX4_indexOf cX4_indexOf 5 (some .int), Cond.methodLink RX4 115 yX4_feeOn, Cond.instanceMethod yX4_feeOn, Cond.selects RX4 yX4_feeOn yX4_feeOn, Cond.code yX4_feeOn cX4_feeOn 4 (some .int), Cond.methodLink RX4 118 yX4_count, Cond.instanceMethod yX4_count, Cond.selects RX4 yX4_count yX4_count, Cond.code yX4_count cX4_count 4 none, Cond.methodLink RX4 122 yX4_leave, Cond.instanceMethod yX4_leave, Cond.selects RX4 yX4_leave yX4_leave, Cond.code yX4_leave cX4_leave 2 none, Cond.methodLink RL 31 yX3_refuse, Cond.instanceMethod yX3_refuse, Cond.selects RX3 yX3_refuse yX3_refuse, Cond.code yX3_refuse cX3_refuse 2 (some .int), Cond.methodLink RX3 73 yX3_letRefuse, Cond.instanceMethod yX3_letRefuse, Cond.selects RX3 yX3_letRefuse yX3_letRefuse, Cond.code yX3_letRefuse cX3_letRefuse 4 (some .int), Cond.fieldLink RX3 126 "ParcelShelves$Shop" "bins" "[I", Cond.methodLink RX3 242 yX3_refuseForNoParcel]
def wsL_law_r15 : List Cond := [Cond.instanceMethod yX3_refuseForNoParcel, Cond.selects RX3 yX3_refuseForNoParcel yX3_refuseForNoParcel, Cond.code yX3_refuseForNoParcel cX3_refuseForNoParcel 4 none, Cond.methodLink RX3 162 yX3_indexOfCode, Cond.methodLink RX3 171 yX1_rests, Cond.methodLink RL 34 yX4_refuse, Cond.instanceMethod yX4_refuse, Cond.selects RX4 yX4_refuse yX4_refuse, Cond.code yX4_refuse cX4_refuse 3 (some .int), Cond.methodLink RX4 138 yX4_whyNotRefuse, Cond.instanceMethod yX4_whyNotRefuse, Cond.selects RX4 yX4_whyNotRefuse yX4_whyNotRefuse, Cond.code yX4_whyNotRefuse cX4_whyNotRefuse 3 (some .int), Cond.methodLink RX4 132 yX4_refuseCode, Cond.instanceMethod yX4_refuseCode, Cond.selects RX4 yX4_refuseCode yX4_refuseCode, Cond.code yX4_refuseCode cX4_refuseCode 2 (some .int), Cond.methodLink RX4 135 yX4_ofSender, Cond.instanceMethod yX4_ofSender, Cond.selects RX4 yX4_ofSender yX4_ofSender, Cond.code yX4_ofSender cX4_ofSender 3 (some .int), Cond.methodLink RX4 141 yX4_goesBack, Cond.instanceMethod yX4_goesBack, Cond.selects RX4 yX4_goesBack yX4_goesBack]
def wsL_law_r16 : List Cond := [Cond.code yX4_goesBack cX4_goesBack 3 (some .int), Cond.methodLink RL 35 yX3_move, Cond.instanceMethod yX3_move, Cond.selects RX3 yX3_move yX3_move, Cond.code yX3_move cX3_move 3 (some .int), Cond.methodLink RX3 76 yX3_moveParcel, Cond.instanceMethod yX3_moveParcel, Cond.selects RX3 yX3_moveParcel yX3_moveParcel, Cond.code yX3_moveParcel cX3_moveParcel 5 (some .int), Cond.fieldLink RX3 94 "ParcelShelves$Shop" "sizes" "[I", Cond.fieldLink RX3 97 "ParcelShelves$Shop" "cameOn" "[I", Cond.methodLink RX3 114 yX3_sizeOfShelf, Cond.static yX3_sizeOfShelf, Cond.code yX3_sizeOfShelf cX3_sizeOfShelf 1 (some .int), Cond.methodLink RL 38 yX4_move, Cond.instanceMethod yX4_move, Cond.selects RX4 yX4_move yX4_move, Cond.code yX4_move cX4_move 4 (some .int), Cond.methodLink RX4 144 yX4_whyNotMove, Cond.instanceMethod yX4_whyNotMove, Cond.selects RX4 yX4_whyNotMove yX4_whyNotMove, Cond.code yX4_whyNotMove cX4_whyNotMove 4 (some .int), Cond.methodLink RX4 147 yX4_moves, Cond.instanceMethod yX4_moves]
def wsL_law_r17 : List Cond := [Cond.selects RX4 yX4_moves yX4_moves, Cond.code yX4_moves cX4_moves 5 (some .int), Cond.methodLink RL 39 yX3_pass, Cond.instanceMethod yX3_pass, Cond.selects RX3 yX3_pass yX3_pass, Cond.code yX3_pass cX3_pass 2 (some .int), Cond.methodLink RX3 79 yX3_letPass, Cond.instanceMethod yX3_letPass, Cond.selects RX3 yX3_letPass yX3_letPass, Cond.code yX3_letPass cX3_letPass 4 (some .int), Cond.methodLink RX3 186 yX1_beginDay, Cond.instanceMethod yX1_beginDay, Cond.selects RX1 yX1_beginDay yX1_beginDay, Cond.code yX1_beginDay cX1_beginDay 1 (some .int), Cond.methodLink RX1 99 yX1_letCourierCome, Cond.instanceMethod yX1_letCourierCome, Cond.selects RX1 yX1_letCourierCome yX1_letCourierCome, Cond.code yX1_letCourierCome cX1_letCourierCome 2 none, Cond.methodLink RX1 106 yX1_emptyBin, Cond.instanceMethod yX1_emptyBin, Cond.selects RX1 yX1_emptyBin yX1_emptyBin, Cond.code yX1_emptyBin cX1_emptyBin 4 (some .int), Cond.methodLink RX1 102 yX1_returnParcelsKeptTooLong, Cond.instanceMethod yX1_returnParcelsKeptTooLong]
def wsL_law_r18 : List Cond := [Cond.selects RX1 yX1_returnParcelsKeptTooLong yX1_returnParcelsKeptTooLong, Cond.code yX1_returnParcelsKeptTooLong cX1_returnParcelsKeptTooLong 3 (some .int), Cond.methodLink RX1 109 yX1_isKeptTooLong, Cond.instanceMethod yX1_isKeptTooLong, Cond.selects RX1 yX1_isKeptTooLong yX1_isKeptTooLong, Cond.code yX1_isKeptTooLong cX1_isKeptTooLong 2 (some .boolean), Cond.methodLink RX1 112 yX1_leave, Cond.methodLink RL 42 yX4_pass, Cond.instanceMethod yX4_pass, Cond.selects RX4 yX4_pass yX4_pass, Cond.code yX4_pass cX4_pass 3 (some .int), Cond.methodLink RX4 156 yX4_whyNotPass, Cond.instanceMethod yX4_whyNotPass, Cond.selects RX4 yX4_whyNotPass yX4_whyNotPass, Cond.code yX4_whyNotPass cX4_whyNotPass 2 (some .int), Cond.methodLink RX4 159 yX4_passes, Cond.instanceMethod yX4_passes, Cond.selects RX4 yX4_passes yX4_passes, Cond.code yX4_passes cX4_passes 4 (some .int), Cond.methodLink RX4 153 yX4_begins, Cond.instanceMethod yX4_begins, Cond.selects RX4 yX4_begins yX4_begins, Cond.code yX4_begins cX4_begins 3 (some .int), Cond.methodLink RX4 150 yX4_takes]
def wsL_law_r19 : List Cond := [Cond.instanceMethod yX4_takes, Cond.selects RX4 yX4_takes yX4_takes, Cond.code yX4_takes cX4_takes 5 (some .int), Cond.methodLink RL 43 yX3_call, Cond.instanceMethod yX3_call, Cond.selects RX3 yX3_call yX3_call, Cond.code yX3_call cX3_call 2 (some .int), Cond.methodLink RX3 82 yX3_callCourier, Cond.instanceMethod yX3_callCourier, Cond.selects RX3 yX3_callCourier yX3_callCourier, Cond.code yX3_callCourier cX3_callCourier 2 (some .int), Cond.methodLink RX3 245 yX1_emptyBin, Cond.methodLink RL 46 yX4_call, Cond.instanceMethod yX4_call, Cond.selects RX4 yX4_call yX4_call, Cond.code yX4_call cX4_call 2 (some .int), Cond.methodLink RL 47 yX3_day, Cond.instanceMethod yX3_day, Cond.selects RX3 yX3_day yX3_day, Cond.code yX3_day cX3_day 1 (some .int), Cond.methodLink RL 51 yX4_day, Cond.instanceMethod yX4_day, Cond.selects RX4 yX4_day yX4_day, Cond.code yX4_day cX4_day 1 (some .int)]
def wsL_law_r20 : List Cond := [Cond.methodLink RL 52 yX3_parcel, Cond.instanceMethod yX3_parcel, Cond.selects RX3 yX3_parcel yX3_parcel, Cond.code yX3_parcel cX3_parcel 4 (some .int), Cond.methodLink RL 55 yX4_parcel, Cond.instanceMethod yX4_parcel, Cond.selects RX4 yX4_parcel yX4_parcel, Cond.code yX4_parcel cX4_parcel 4 (some .int), Cond.methodLink RL 56 yX3_codeAt, Cond.instanceMethod yX3_codeAt, Cond.selects RX3 yX3_codeAt yX3_codeAt, Cond.code yX3_codeAt cX3_codeAt 4 (some .int), Cond.methodLink RX3 107 yX1_isFree, Cond.methodLink RL 59 yX4_codeAt, Cond.instanceMethod yX4_codeAt, Cond.selects RX4 yX4_codeAt yX4_codeAt, Cond.code yX4_codeAt cX4_codeAt 3 (some .int), Cond.methodLink RX4 162 yX4_isPlace, Cond.static yX4_isPlace, Cond.code yX4_isPlace cX4_isPlace 2 (some .boolean), Cond.methodLink RL 60 yX3_shelf, Cond.instanceMethod yX3_shelf, Cond.selects RX3 yX3_shelf yX3_shelf, Cond.code yX3_shelf cX3_shelf 3 (some .int)]
def wsL_law_r21 : List Cond := [Cond.methodLink RX3 117 yX1_parcelsOnShelf, Cond.instanceMethod yX1_parcelsOnShelf, Cond.selects RX1 yX1_parcelsOnShelf yX1_parcelsOnShelf, Cond.code yX1_parcelsOnShelf cX1_parcelsOnShelf 4 (some .int), Cond.methodLink RX3 120 yX1_restingOnShelf, Cond.instanceMethod yX1_restingOnShelf, Cond.selects RX1 yX1_restingOnShelf yX1_restingOnShelf, Cond.code yX1_restingOnShelf cX1_restingOnShelf 5 (some .int), Cond.methodLink RL 63 yX4_shelf, Cond.instanceMethod yX4_shelf, Cond.selects RX4 yX4_shelf yX4_shelf, Cond.code yX4_shelf cX4_shelf 6 (some .int), Cond.methodLink RL 64 yX3_sender, Cond.instanceMethod yX3_sender, Cond.selects RX3 yX3_sender yX3_sender, Cond.code yX3_sender cX3_sender 3 (some .int), Cond.fieldLink RX3 129 "ParcelShelves$Shop" "charged" "[I", Cond.fieldLink RX3 135 "ParcelShelves$Shop" "taken" "[I", Cond.methodLink RX3 123 yX1_parcelsOfSender, Cond.instanceMethod yX1_parcelsOfSender, Cond.selects RX1 yX1_parcelsOfSender yX1_parcelsOfSender, Cond.code yX1_parcelsOfSender cX1_parcelsOfSender 4 (some .int), Cond.methodLink RL 67 yX4_sender, Cond.instanceMethod yX4_sender]
def wsL_law_r22 : List Cond := [Cond.selects RX4 yX4_sender yX4_sender, Cond.code yX4_sender cX4_sender 5 (some .int), Cond.methodLink RL 68 yX3_total, Cond.instanceMethod yX3_total, Cond.selects RX3 yX3_total yX3_total, Cond.code yX3_total cX3_total 2 (some .int), Cond.methodLink RX3 138 yX1_parcelsOnShelves, Cond.instanceMethod yX1_parcelsOnShelves, Cond.selects RX1 yX1_parcelsOnShelves yX1_parcelsOnShelves, Cond.code yX1_parcelsOnShelves cX1_parcelsOnShelves 3 (some .int), Cond.methodLink RX1 116 yX1_parcelsOnShelf, Cond.methodLink RX3 142 yX3_sum, Cond.static yX3_sum, Cond.code yX3_sum cX3_sum 6 (some .int), Cond.methodLink RX3 159 yX1_feesOnShelves, Cond.instanceMethod yX1_feesOnShelves, Cond.selects RX1 yX1_feesOnShelves yX1_feesOnShelves, Cond.code yX1_feesOnShelves cX1_feesOnShelves 3 (some .int), Cond.methodLink RX1 119 yX1_feeAfter, Cond.methodLink RL 71 yX4_total, Cond.instanceMethod yX4_total, Cond.selects RX4 yX4_total yX4_total, Cond.code yX4_total cX4_total 2 (some .int), Cond.methodLink RX4 43 yX4_parcels]
def wsL_law_r23 : List Cond := [Cond.instanceMethod yX4_parcels, Cond.selects RX4 yX4_parcels yX4_parcels, Cond.code yX4_parcels cX4_parcels 3 (some .int), Cond.methodLink RX4 165 yX4_inBins, Cond.instanceMethod yX4_inBins, Cond.selects RX4 yX4_inBins yX4_inBins, Cond.code yX4_inBins cX4_inBins 3 (some .int), Cond.methodLink RX4 168 yX4_fees, Cond.instanceMethod yX4_fees, Cond.selects RX4 yX4_fees yX4_fees, Cond.code yX4_fees cX4_fees 3 (some .int), Cond.methodLink RL 72 yX3_refusal, Cond.instanceMethod yX3_refusal, Cond.selects RX3 yX3_refusal yX3_refusal, Cond.code yX3_refusal cX3_refusal 2 (some .int), Cond.methodLink RL 75 yX4_refusal, Cond.instanceMethod yX4_refusal, Cond.selects RX4 yX4_refusal yX4_refusal, Cond.code yX4_refusal cX4_refusal 2 (some .int), Cond.methodLink RL 76 yX3_isCode, Cond.instanceMethod yX3_isCode, Cond.selects RX3 yX3_isCode yX3_isCode, Cond.code yX3_isCode cX3_isCode 2 (some .int), Cond.methodLink RL 79 yX4_isCode]
def wsL_law_r24 : List Cond := [Cond.instanceMethod yX4_isCode, Cond.selects RX4 yX4_isCode yX4_isCode, Cond.code yX4_isCode cX4_isCode 2 (some .int), Cond.methodLink RL 80 yX3_codeOf, Cond.instanceMethod yX3_codeOf, Cond.selects RX3 yX3_codeOf yX3_codeOf, Cond.code yX3_codeOf cX3_codeOf 4 (some .int), Cond.methodLink RX3 165 yX3_weekdayOf, Cond.methodLink RX3 168 yX3_codeFor, Cond.methodLink RL 84 yX4_codeOf, Cond.instanceMethod yX4_codeOf, Cond.selects RX4 yX4_codeOf yX4_codeOf, Cond.code yX4_codeOf cX4_codeOf 4 (some .int), Cond.methodLink RL 85 yX3_restsUntil, Cond.instanceMethod yX3_restsUntil, Cond.selects RX3 yX3_restsUntil yX3_restsUntil, Cond.code yX3_restsUntil cX3_restsUntil 3 (some .int), Cond.fieldLink RX3 174 "ParcelShelves$Shop" "leftOn" "[I", Cond.methodLink RL 88 yX4_restsUntil, Cond.instanceMethod yX4_restsUntil, Cond.selects RX4 yX4_restsUntil yX4_restsUntil, Cond.code yX4_restsUntil cX4_restsUntil 2 (some .int), Cond.methodLink RL 89 yX3_nextCode, Cond.instanceMethod yX3_nextCode]
def wsL_law_r25 : List Cond := [Cond.selects RX3 yX3_nextCode yX3_nextCode, Cond.code yX3_nextCode cX3_nextCode 3 (some .int), Cond.methodLink RL 92 yX4_nextCode, Cond.instanceMethod yX4_nextCode, Cond.selects RX4 yX4_nextCode yX4_nextCode, Cond.code yX4_nextCode cX4_nextCode 3 (some .int), Cond.methodLink RL 93 yX3_feeIn, Cond.instanceMethod yX3_feeIn, Cond.selects RX3 yX3_feeIn yX3_feeIn, Cond.code yX3_feeIn cX3_feeIn 4 (some .int), Cond.methodLink RL 96 yX4_feeIn, Cond.instanceMethod yX4_feeIn, Cond.selects RX4 yX4_feeIn yX4_feeIn, Cond.code yX4_feeIn cX4_feeIn 4 (some .int), Cond.methodLink RL 97 yX3_goesIn, Cond.instanceMethod yX3_goesIn, Cond.selects RX3 yX3_goesIn yX3_goesIn, Cond.code yX3_goesIn cX3_goesIn 4 (some .int), Cond.methodLink RX3 183 yX1_copyFrom, Cond.methodLink RL 100 yX4_goesIn, Cond.instanceMethod yX4_goesIn, Cond.selects RX4 yX4_goesIn yX4_goesIn, Cond.code yX4_goesIn cX4_goesIn 5 (some .int), Cond.methodLink RX4 171 yX4_putAside]
def wsL_law_r26 : List Cond := [Cond.instanceMethod yX4_putAside, Cond.selects RX4 yX4_putAside yX4_putAside, Cond.code yX4_putAside cX4_putAside 2 none, Cond.methodLink RX4 174 yX4_takeBack, Cond.instanceMethod yX4_takeBack, Cond.selects RX4 yX4_takeBack yX4_takeBack, Cond.code yX4_takeBack cX4_takeBack 2 none, Cond.methodLink RL 101 yX3_chargesIn, Cond.instanceMethod yX3_chargesIn, Cond.selects RX3 yX3_chargesIn yX3_chargesIn, Cond.code yX3_chargesIn cX3_chargesIn 3 (some .int), Cond.methodLink RL 104 yX4_chargesIn, Cond.instanceMethod yX4_chargesIn, Cond.selects RX4 yX4_chargesIn yX4_chargesIn, Cond.code yX4_chargesIn cX4_chargesIn 3 (some .int), Cond.methodLink RL 105 yX3_append, Cond.instanceMethod yX3_append, Cond.selects RX3 yX3_append yX3_append, Cond.code yX3_append cX3_append 2 (some .int), Cond.methodLink RX3 189 yX2_isFull, Cond.instanceMethod yX2_isFull, Cond.selects RX2 yX2_isFull yX2_isFull, Cond.code yX2_isFull cX2_isFull 1 (some .boolean), Cond.fieldLink RX2 15 "ParcelShelves$Text" "length" "I"]
def wsL_law_r27 : List Cond := [Cond.methodLink RX3 192 yX2_add, Cond.instanceMethod yX2_add, Cond.selects RX2 yX2_add yX2_add, Cond.code yX2_add cX2_add 2 (some .int), Cond.methodLink RL 108 yX4_append, Cond.instanceMethod yX4_append, Cond.selects RX4 yX4_append yX4_append, Cond.code yX4_append cX4_append 2 (some .int), Cond.fieldLink RX4 177 "ParcelShelvesModel" "typed" "I", Cond.methodLink RL 109 yX3_clearText, Cond.instanceMethod yX3_clearText, Cond.selects RX3 yX3_clearText yX3_clearText, Cond.code yX3_clearText cX3_clearText 1 (some .int), Cond.methodLink RX3 196 yX2_empty, Cond.instanceMethod yX2_empty, Cond.selects RX2 yX2_empty yX2_empty, Cond.code yX2_empty cX2_empty 2 (some .int), Cond.methodLink RL 112 yX4_clearText, Cond.instanceMethod yX4_clearText, Cond.selects RX4 yX4_clearText yX4_clearText, Cond.code yX4_clearText cX4_clearText 2 (some .int), Cond.methodLink RL 113 yX3_errorPosition, Cond.instanceMethod yX3_errorPosition, Cond.selects RX3 yX3_errorPosition yX3_errorPosition]
def wsL_law_r28 : List Cond := [Cond.code yX3_errorPosition cX3_errorPosition 1 (some .int), Cond.methodLink RX3 199 yX2_firstError, Cond.instanceMethod yX2_firstError, Cond.selects RX2 yX2_firstError yX2_firstError, Cond.code yX2_firstError cX2_firstError 3 (some .int), Cond.methodLink RX2 23 yX2_signAt, Cond.instanceMethod yX2_signAt, Cond.selects RX2 yX2_signAt yX2_signAt, Cond.code yX2_signAt cX2_signAt 2 (some .char), Cond.methodLink RX2 27 yX2_phaseAfter, Cond.static yX2_phaseAfter, Cond.code yX2_phaseAfter cX2_phaseAfter 2 (some .int), Cond.methodLink RX2 31 yX2_isEndAllowed, Cond.static yX2_isEndAllowed, Cond.code yX2_isEndAllowed cX2_isEndAllowed 1 (some .boolean), Cond.methodLink RX2 35 yX2_phaseAfterLetter, Cond.static yX2_phaseAfterLetter, Cond.code yX2_phaseAfterLetter cX2_phaseAfterLetter 1 (some .int), Cond.methodLink RX2 39 yX2_isDigit, Cond.static yX2_isDigit, Cond.code yX2_isDigit cX2_isDigit 1 (some .boolean), Cond.methodLink RX2 43 yX2_sizeOf, Cond.static yX2_sizeOf, Cond.code yX2_sizeOf cX2_sizeOf 1 (some .int)]
def wsL_law_r29 : List Cond := [Cond.methodLink RX2 46 yX2_phaseAfterFirstDigit, Cond.static yX2_phaseAfterFirstDigit, Cond.code yX2_phaseAfterFirstDigit cX2_phaseAfterFirstDigit 1 (some .int), Cond.methodLink RX2 49 yX2_phaseInCode, Cond.static yX2_phaseInCode, Cond.code yX2_phaseInCode cX2_phaseInCode 2 (some .int), Cond.methodLink RL 116 yX4_errorPosition, Cond.instanceMethod yX4_errorPosition, Cond.selects RX4 yX4_errorPosition yX4_errorPosition, Cond.code yX4_errorPosition cX4_errorPosition 2 (some .int), Cond.fieldLink RX4 202 "ParcelShelvesModel" "toldMany" "I", Cond.fieldLink RX4 180 "ParcelShelvesModel" "spot" "I", Cond.fieldLink RX4 183 "ParcelShelvesModel" "wrong" "I", Cond.methodLink RX4 205 yX4_readCommand, Cond.instanceMethod yX4_readCommand, Cond.selects RX4 yX4_readCommand yX4_readCommand, Cond.code yX4_readCommand cX4_readCommand 5 none, Cond.methodLink RX4 186 yX4_letter, Cond.instanceMethod yX4_letter, Cond.selects RX4 yX4_letter yX4_letter, Cond.code yX4_letter cX4_letter 1 (some .int), Cond.methodLink RX4 189 yX4_wants, Cond.instanceMethod yX4_wants, Cond.selects RX4 yX4_wants yX4_wants]
def wsL_law_r30 : List Cond := [Cond.code yX4_wants cX4_wants 2 none, Cond.methodLink RX4 193 yX4_figure, Cond.instanceMethod yX4_figure, Cond.selects RX4 yX4_figure yX4_figure, Cond.code yX4_figure cX4_figure 4 (some .int), Cond.methodLink RX4 196 yX4_size, Cond.instanceMethod yX4_size, Cond.selects RX4 yX4_size yX4_size, Cond.code yX4_size cX4_size 2 (some .int), Cond.methodLink RX4 199 yX4_days, Cond.instanceMethod yX4_days, Cond.selects RX4 yX4_days yX4_days, Cond.code yX4_days cX4_days 3 (some .int), Cond.methodLink RL 117 yX3_execute, Cond.instanceMethod yX3_execute, Cond.selects RX3 yX3_execute yX3_execute, Cond.code yX3_execute cX3_execute 3 (some .int), Cond.fieldLink RX3 202 "ParcelShelves$Text" "length" "I", Cond.methodLink RX3 205 yX2_isStartOfCommand, Cond.instanceMethod yX2_isStartOfCommand, Cond.selects RX2 yX2_isStartOfCommand yX2_isStartOfCommand, Cond.code yX2_isStartOfCommand cX2_isStartOfCommand 2 (some .boolean), Cond.methodLink RX3 208 yX3_executeCommand, Cond.instanceMethod yX3_executeCommand]
def wsL_law_r31 : List Cond := [Cond.selects RX3 yX3_executeCommand yX3_executeCommand, Cond.code yX3_executeCommand cX3_executeCommand 2 (some .int), Cond.methodLink RX3 248 yX2_signAt, Cond.methodLink RX3 252 yX2_numberAt, Cond.instanceMethod yX2_numberAt, Cond.selects RX2 yX2_numberAt yX2_numberAt, Cond.code yX2_numberAt cX2_numberAt 5 (some .int), Cond.methodLink RX3 255 yX2_sizeAt, Cond.instanceMethod yX2_sizeAt, Cond.selects RX2 yX2_sizeAt yX2_sizeAt, Cond.code yX2_sizeAt cX2_sizeAt 2 (some .int), Cond.methodLink RX3 258 yX2_endOfCommand, Cond.instanceMethod yX2_endOfCommand, Cond.selects RX2 yX2_endOfCommand yX2_endOfCommand, Cond.code yX2_endOfCommand cX2_endOfCommand 3 (some .int), Cond.methodLink RL 120 yX4_execute, Cond.instanceMethod yX4_execute, Cond.selects RX4 yX4_execute yX4_execute, Cond.code yX4_execute cX4_execute 2 (some .int), Cond.methodLink RX4 208 yX4_errorPosition, Cond.methodLink RX4 211 yX4_executeOne, Cond.instanceMethod yX4_executeOne, Cond.selects RX4 yX4_executeOne yX4_executeOne, Cond.code yX4_executeOne cX4_executeOne 5 (some .int)]
def wsL_law_r32 : List Cond := [Cond.methodLink RL 121 yX3_undo, Cond.instanceMethod yX3_undo, Cond.selects RX3 yX3_undo yX3_undo, Cond.code yX3_undo cX3_undo 1 (some .int), Cond.fieldLink RX3 214 "ParcelShelves$History" "count" "I", Cond.methodLink RX3 217 yX0_takeBack, Cond.instanceMethod yX0_takeBack, Cond.selects RX0 yX0_takeBack yX0_takeBack, Cond.code yX0_takeBack cX0_takeBack 2 (some .int), Cond.methodLink RL 124 yX4_undo, Cond.instanceMethod yX4_undo, Cond.selects RX4 yX4_undo yX4_undo, Cond.code yX4_undo cX4_undo 2 (some .int), Cond.methodLink RL 125 yX3_save, Cond.instanceMethod yX3_save, Cond.selects RX3 yX3_save yX3_save, Cond.code yX3_save cX3_save 1 (some .int), Cond.methodLink RL 128 yX4_save, Cond.instanceMethod yX4_save, Cond.selects RX4 yX4_save yX4_save, Cond.code yX4_save cX4_save 2 (some .int), Cond.fieldLink RX4 39 "ParcelShelvesModel" "isKept" "Z", Cond.methodLink RL 129 yX3_restore, Cond.instanceMethod yX3_restore]
def wsL_law_r33 : List Cond := [Cond.selects RX3 yX3_restore yX3_restore, Cond.code yX3_restore cX3_restore 1 (some .int), Cond.methodLink RL 132 yX4_restore, Cond.instanceMethod yX4_restore, Cond.selects RX4 yX4_restore yX4_restore, Cond.code yX4_restore cX4_restore 2 (some .int)]
def wsL_law : List Cond := (wsL_law_r1 ++ (wsL_law_r2 ++ (wsL_law_r3 ++ (wsL_law_r4 ++ (wsL_law_r5 ++ (wsL_law_r6 ++ (wsL_law_r7 ++ (wsL_law_r8 ++ (wsL_law_r9 ++ (wsL_law_r10 ++ (wsL_law_r11 ++ (wsL_law_r12 ++ (wsL_law_r13 ++ (wsL_law_r14 ++ (wsL_law_r15 ++ (wsL_law_r16 ++ (wsL_law_r17 ++ (wsL_law_r18 ++ (wsL_law_r19 ++ (wsL_law_r20 ++ (wsL_law_r21 ++ (wsL_law_r22 ++ (wsL_law_r23 ++ (wsL_law_r24 ++ (wsL_law_r25 ++ (wsL_law_r26 ++ (wsL_law_r27 ++ (wsL_law_r28 ++ (wsL_law_r29 ++ (wsL_law_r30 ++ (wsL_law_r31 ++ (wsL_law_r32 ++ wsL_law_r33)))))))))))))))))))))))))))))))) ++ wsX30 ++ wsX40 ++ wsX10 ++ wsX00 ++ wsX20 ++ ([] : List Cond)
end
section
theorem lx_app {a b : List Cond} (ha : ∀ w ∈ a, w ∈ lw_tbl) (hb : ∀ w ∈ b, w ∈ lw_tbl) : ∀ w ∈ a ++ b, w ∈ lw_tbl := fun w h => (List.mem_append.mp h).elim (ha w) (hb w)
set_option maxRecDepth 20000 in
theorem lx_wsL_law_r1 : ∀ w ∈ wsL_law_r1, w ∈ lw_tbl := fun w h => (goodIn_p wsL_law_r1 [69, 72] (by decide +kernel) (by decide +kernel) w h).1
set_option maxRecDepth 20000 in
theorem lx_wsL_law_r2 : ∀ w ∈ wsL_law_r2, w ∈ lw_tbl := fun w h => (goodIn_p wsL_law_r2 [77] (by decide +kernel) (by decide +kernel) w h).1
set_option maxRecDepth 20000 in
theorem lx_wsL_law_r3 : ∀ w ∈ wsL_law_r3, w ∈ lw_tbl := fun w h => (goodIn_p wsL_law_r3 [86, 148, 168, 582] (by decide +kernel) (by decide +kernel) w h).1
set_option maxRecDepth 20000 in
theorem lx_wsL_law_r4 : ∀ w ∈ wsL_law_r4, w ∈ lw_tbl := fun w h => (goodIn_p wsL_law_r4 [207, 211, 215] (by decide +kernel) (by decide +kernel) w h).1
set_option maxRecDepth 20000 in
theorem lx_wsL_law_r5 : ∀ w ∈ wsL_law_r5, w ∈ lw_tbl := fun w h => (goodIn_p wsL_law_r5 [219, 222, 230, 233, 237, 658] (by decide +kernel) (by decide +kernel) w h).1
set_option maxRecDepth 20000 in
theorem lx_wsL_law_r6 : ∀ w ∈ wsL_law_r6, w ∈ lw_tbl := fun w h => (goodIn_p wsL_law_r6 [661, 664, 654, 241, 668, 245] (by decide +kernel) (by decide +kernel) w h).1
set_option maxRecDepth 20000 in
theorem lx_wsL_law_r7 : ∀ w ∈ wsL_law_r7, w ∈ lw_tbl := fun w h => (goodIn_p wsL_law_r7 [249, 252, 256, 260, 264, 267, 270] (by decide +kernel) (by decide +kernel) w h).1
set_option maxRecDepth 20000 in
theorem lx_wsL_law_r8 : ∀ w ∈ wsL_law_r8, w ∈ lw_tbl := fun w h => (goodIn_p wsL_law_r8 [274, 278, 282, 286, 290, 294] (by decide +kernel) (by decide +kernel) w h).1
set_option maxRecDepth 20000 in
theorem lx_wsL_law_r9 : ∀ w ∈ wsL_law_r9, w ∈ lw_tbl := fun w h => (goodIn_p wsL_law_r9 [297, 300, 672, 676, 679, 683, 642] (by decide +kernel) (by decide +kernel) w h).1
set_option maxRecDepth 20000 in
theorem lx_wsL_law_r10 : ∀ w ∈ wsL_law_r10, w ∈ lw_tbl := fun w h => (goodIn_p wsL_law_r10 [646, 687, 690, 694, 698, 702] (by decide +kernel) (by decide +kernel) w h).1
set_option maxRecDepth 20000 in
theorem lx_wsL_law_r11 : ∀ w ∈ wsL_law_r11, w ∈ lw_tbl := fun w h => (goodIn_p wsL_law_r11 [706, 710, 714, 717, 304, 308] (by decide +kernel) (by decide +kernel) w h).1
set_option maxRecDepth 20000 in
theorem lx_wsL_law_r12 : ∀ w ∈ wsL_law_r12, w ∈ lw_tbl := fun w h => (goodIn_p wsL_law_r12 [312, 316, 319, 322, 327, 330] (by decide +kernel) (by decide +kernel) w h).1
set_option maxRecDepth 20000 in
theorem lx_wsL_law_r13 : ∀ w ∈ wsL_law_r13, w ∈ lw_tbl := fun w h => (goodIn_p wsL_law_r13 [334, 721, 725, 729, 733, 737] (by decide +kernel) (by decide +kernel) w h).1
set_option maxRecDepth 20000 in
theorem lx_wsL_law_r14 : ∀ w ∈ wsL_law_r14, w ∈ lw_tbl := fun w h => (goodIn_p wsL_law_r14 [740, 744, 748, 752, 338, 342] (by decide +kernel) (by decide +kernel) w h).1
set_option maxRecDepth 20000 in
theorem lx_wsL_law_r15 : ∀ w ∈ wsL_law_r15, w ∈ lw_tbl := fun w h => (goodIn_p wsL_law_r15 [346, 756, 760, 764, 768] (by decide +kernel) (by decide +kernel) w h).1
set_option maxRecDepth 20000 in
theorem lx_wsL_law_r16 : ∀ w ∈ wsL_law_r16, w ∈ lw_tbl := fun w h => (goodIn_p wsL_law_r16 [772, 352, 356, 359, 776, 780] (by decide +kernel) (by decide +kernel) w h).1
set_option maxRecDepth 20000 in
theorem lx_wsL_law_r17 : ∀ w ∈ wsL_law_r17, w ∈ lw_tbl := fun w h => (goodIn_p wsL_law_r17 [784, 363, 367, 371, 375, 379] (by decide +kernel) (by decide +kernel) w h).1
set_option maxRecDepth 20000 in
theorem lx_wsL_law_r18 : ∀ w ∈ wsL_law_r18, w ∈ lw_tbl := fun w h => (goodIn_p wsL_law_r18 [383, 387, 788, 792, 796, 800] (by decide +kernel) (by decide +kernel) w h).1
set_option maxRecDepth 20000 in
theorem lx_wsL_law_r19 : ∀ w ∈ wsL_law_r19, w ∈ lw_tbl := fun w h => (goodIn_p wsL_law_r19 [804, 392, 396, 808, 401, 812] (by decide +kernel) (by decide +kernel) w h).1
set_option maxRecDepth 20000 in
theorem lx_wsL_law_r20 : ∀ w ∈ wsL_law_r20, w ∈ lw_tbl := fun w h => (goodIn_p wsL_law_r20 [405, 816, 409, 820, 823, 414] (by decide +kernel) (by decide +kernel) w h).1
set_option maxRecDepth 20000 in
theorem lx_wsL_law_r21 : ∀ w ∈ wsL_law_r21, w ∈ lw_tbl := fun w h => (goodIn_p wsL_law_r21 [418, 422, 827, 426, 430] (by decide +kernel) (by decide +kernel) w h).1
set_option maxRecDepth 20000 in
theorem lx_wsL_law_r22 : ∀ w ∈ wsL_law_r22, w ∈ lw_tbl := fun w h => (goodIn_p wsL_law_r22 [831, 434, 438, 442, 446, 835] (by decide +kernel) (by decide +kernel) w h).1
set_option maxRecDepth 20000 in
theorem lx_wsL_law_r23 : ∀ w ∈ wsL_law_r23, w ∈ lw_tbl := fun w h => (goodIn_p wsL_law_r23 [638, 839, 843, 451, 847, 455] (by decide +kernel) (by decide +kernel) w h).1
set_option maxRecDepth 20000 in
theorem lx_wsL_law_r24 : ∀ w ∈ wsL_law_r24, w ∈ lw_tbl := fun w h => (goodIn_p wsL_law_r24 [851, 459, 855, 465, 859] (by decide +kernel) (by decide +kernel) w h).1
set_option maxRecDepth 20000 in
theorem lx_wsL_law_r25 : ∀ w ∈ wsL_law_r25, w ∈ lw_tbl := fun w h => (goodIn_p wsL_law_r25 [469, 863, 473, 867, 477, 871] (by decide +kernel) (by decide +kernel) w h).1
set_option maxRecDepth 20000 in
theorem lx_wsL_law_r26 : ∀ w ∈ wsL_law_r26, w ∈ lw_tbl := fun w h => (goodIn_p wsL_law_r26 [875, 879, 482, 883, 486, 490] (by decide +kernel) (by decide +kernel) w h).1
set_option maxRecDepth 20000 in
theorem lx_wsL_law_r27 : ∀ w ∈ wsL_law_r27, w ∈ lw_tbl := fun w h => (goodIn_p wsL_law_r27 [494, 887, 498, 502, 891] (by decide +kernel) (by decide +kernel) w h).1
set_option maxRecDepth 20000 in
theorem lx_wsL_law_r28 : ∀ w ∈ wsL_law_r28, w ∈ lw_tbl := fun w h => (goodIn_p wsL_law_r28 [506, 510, 514, 518, 521, 524, 527, 530] (by decide +kernel) (by decide +kernel) w h).1
set_option maxRecDepth 20000 in
theorem lx_wsL_law_r29 : ∀ w ∈ wsL_law_r29, w ∈ lw_tbl := fun w h => (goodIn_p wsL_law_r29 [533, 536, 895, 899, 903] (by decide +kernel) (by decide +kernel) w h).1
set_option maxRecDepth 20000 in
theorem lx_wsL_law_r30 : ∀ w ∈ wsL_law_r30, w ∈ lw_tbl := fun w h => (goodIn_p wsL_law_r30 [907, 911, 915, 919, 540, 544] (by decide +kernel) (by decide +kernel) w h).1
set_option maxRecDepth 20000 in
theorem lx_wsL_law_r31 : ∀ w ∈ wsL_law_r31, w ∈ lw_tbl := fun w h => (goodIn_p wsL_law_r31 [548, 553, 557, 561, 923, 928] (by decide +kernel) (by decide +kernel) w h).1
set_option maxRecDepth 20000 in
theorem lx_wsL_law_r32 : ∀ w ∈ wsL_law_r32, w ∈ lw_tbl := fun w h => (goodIn_p wsL_law_r32 [565, 569, 630, 573, 634] (by decide +kernel) (by decide +kernel) w h).1
set_option maxRecDepth 20000 in
theorem lx_wsL_law_r33 : ∀ w ∈ wsL_law_r33, w ∈ lw_tbl := fun w h => (goodIn_p wsL_law_r33 [577, 650] (by decide +kernel) (by decide +kernel) w h).1
set_option maxRecDepth 20000 in
theorem lx_wsX30 : ∀ w ∈ wsX30, w ∈ lw_tbl := fun w h => (goodIn_p wsX30 [] (by decide +kernel) (by decide +kernel) w h).1
set_option maxRecDepth 20000 in
theorem lx_wsX40 : ∀ w ∈ wsX40, w ∈ lw_tbl := fun w h => (goodIn_p wsX40 [] (by decide +kernel) (by decide +kernel) w h).1
set_option maxRecDepth 20000 in
theorem lx_wsX10 : ∀ w ∈ wsX10, w ∈ lw_tbl := fun w h => (goodIn_p wsX10 [] (by decide +kernel) (by decide +kernel) w h).1
set_option maxRecDepth 20000 in
theorem lx_wsX00 : ∀ w ∈ wsX00, w ∈ lw_tbl := fun w h => (goodIn_p wsX00 [] (by decide +kernel) (by decide +kernel) w h).1
set_option maxRecDepth 20000 in
theorem lx_wsX20 : ∀ w ∈ wsX20, w ∈ lw_tbl := fun w h => (goodIn_p wsX20 [] (by decide +kernel) (by decide +kernel) w h).1
theorem wsL_law_in : ∀ w ∈ wsL_law, w ∈ lw_tbl := (lx_app (lx_app (lx_app (lx_app (lx_app (lx_app (lx_app lx_wsL_law_r1 (lx_app lx_wsL_law_r2 (lx_app lx_wsL_law_r3 (lx_app lx_wsL_law_r4 (lx_app lx_wsL_law_r5 (lx_app lx_wsL_law_r6 (lx_app lx_wsL_law_r7 (lx_app lx_wsL_law_r8 (lx_app lx_wsL_law_r9 (lx_app lx_wsL_law_r10 (lx_app lx_wsL_law_r11 (lx_app lx_wsL_law_r12 (lx_app lx_wsL_law_r13 (lx_app lx_wsL_law_r14 (lx_app lx_wsL_law_r15 (lx_app lx_wsL_law_r16 (lx_app lx_wsL_law_r17 (lx_app lx_wsL_law_r18 (lx_app lx_wsL_law_r19 (lx_app lx_wsL_law_r20 (lx_app lx_wsL_law_r21 (lx_app lx_wsL_law_r22 (lx_app lx_wsL_law_r23 (lx_app lx_wsL_law_r24 (lx_app lx_wsL_law_r25 (lx_app lx_wsL_law_r26 (lx_app lx_wsL_law_r27 (lx_app lx_wsL_law_r28 (lx_app lx_wsL_law_r29 (lx_app lx_wsL_law_r30 (lx_app lx_wsL_law_r31 (lx_app lx_wsL_law_r32 lx_wsL_law_r33)))))))))))))))))))))))))))))))) lx_wsX30) lx_wsX40) lx_wsX10) lx_wsX00) lx_wsX20) (fun w h => absurd h List.not_mem_nil))
end
section
theorem inlX0 : ∀ w ∈ wsX00, w ∈ wsL_law := fun _ h => List.mem_append_left _ (List.mem_append_left _ (List.mem_append_right _ h))
theorem inX0 : ∀ w ∈ wsX00, w ∈ lw_tbl := fun w h => wsL_law_in w (inlX0 w h)
theorem inlX1 : ∀ w ∈ wsX10, w ∈ wsL_law := fun _ h => List.mem_append_left _ (List.mem_append_left _ (List.mem_append_left _ (List.mem_append_right _ h)))
theorem inX1 : ∀ w ∈ wsX10, w ∈ lw_tbl := fun w h => wsL_law_in w (inlX1 w h)
theorem inlX2 : ∀ w ∈ wsX20, w ∈ wsL_law := fun _ h => List.mem_append_left _ (List.mem_append_right _ h)
theorem inX2 : ∀ w ∈ wsX20, w ∈ lw_tbl := fun w h => wsL_law_in w (inlX2 w h)
theorem inlX3 : ∀ w ∈ wsX30, w ∈ wsL_law := fun _ h => List.mem_append_left _ (List.mem_append_left _ (List.mem_append_left _ (List.mem_append_left _ (List.mem_append_left _ (List.mem_append_right _ h)))))
theorem inX3 : ∀ w ∈ wsX30, w ∈ lw_tbl := fun w h => wsL_law_in w (inlX3 w h)
theorem inlX4 : ∀ w ∈ wsX40, w ∈ wsL_law := fun _ h => List.mem_append_left _ (List.mem_append_left _ (List.mem_append_left _ (List.mem_append_left _ (List.mem_append_right _ h))))
theorem inX4 : ∀ w ∈ wsX40, w ∈ lw_tbl := fun w h => wsL_law_in w (inlX4 w h)
theorem inJ9 : ∀ w ∈ wsJ90, w ∈ lw_tbl := by decide +kernel
theorem inJ10 : ∀ w ∈ wsJ100, w ∈ lw_tbl := by decide +kernel
theorem inJ7 : ∀ w ∈ wsJ70, w ∈ lw_tbl := by decide +kernel
set_option maxRecDepth 20000 in
theorem ggX0_init_X1_init : GoodIn wsX0_init wsX1_init := goodIn_r _ [10, 11, 2, 3, 12, 13, 14, 15, 16, 17, 18, 19, 20, 21, 22, 23, 24, 25, 26, 27, 28, 29, 30, 34, 35, 36, 37, 38, 39, 40, 41, 42, 43, 44, 45, 46, 47] (by decide +kernel) (by decide +kernel)
set_option maxRecDepth 20000 in
theorem gX0_init_X1_init : GoodIn wsX0_init (wsX1_init) := ggX0_init_X1_init
theorem dX0_init_0 : decode cX0_init 0 = .ok (.aload_n 0, 1) := by decide +kernel
theorem dX0_init_1 : decode cX0_init 1 = .ok (.invokespecial 3, 3) := by decide +kernel
theorem dX0_init_4 : decode cX0_init 4 = .ok (.aload_n 0, 1) := by decide +kernel
theorem dX0_init_5 : decode cX0_init 5 = .ok (.bipush 6, 2) := by decide +kernel
theorem dX0_init_7 : decode cX0_init 7 = .ok (.anewarray 9, 3) := by decide +kernel
theorem dX0_init_10 : decode cX0_init 10 = .ok (.putfield 11, 3) := by decide +kernel
theorem dX0_init_13 : decode cX0_init 13 = .ok (.iconst 0, 1) := by decide +kernel
theorem dX0_init_14 : decode cX0_init 14 = .ok (.istore_n 1, 1) := by decide +kernel
theorem dX0_init_15 : decode cX0_init 15 = .ok (.iload_n 1, 1) := by decide +kernel
theorem dX0_init_16 : decode cX0_init 16 = .ok (.bipush 6, 2) := by decide +kernel
theorem dX0_init_18 : decode cX0_init 18 = .ok (.if_icmp .ge 22, 3) := by decide +kernel
theorem dX0_init_21 : decode cX0_init 21 = .ok (.aload_n 0, 1) := by decide +kernel
theorem dX0_init_22 : decode cX0_init 22 = .ok (.getfield 11, 3) := by decide +kernel
theorem dX0_init_25 : decode cX0_init 25 = .ok (.iload_n 1, 1) := by decide +kernel
theorem dX0_init_26 : decode cX0_init 26 = .ok (.new 9, 3) := by decide +kernel
theorem dX0_init_29 : decode cX0_init 29 = .ok (.dup, 1) := by decide +kernel
theorem dX0_init_30 : decode cX0_init 30 = .ok (.invokespecial 15, 3) := by decide +kernel
theorem dX0_init_33 : decode cX0_init 33 = .ok (.aastore, 1) := by decide +kernel
theorem dX0_init_34 : decode cX0_init 34 = .ok (.iinc 1 1, 3) := by decide +kernel
theorem dX0_init_37 : decode cX0_init 37 = .ok (.goto (-22), 3) := by decide +kernel
theorem dX0_init_40 : decode cX0_init 40 = .ok (.return_, 1) := by decide +kernel
set_option maxRecDepth 20000 in
theorem ggX0_prepare_X1_copyFrom : GoodIn wsX0_prepare wsX1_copyFrom := goodIn_r _ [8, 9, 10, 11, 12, 13, 14, 15, 16, 17, 18, 19, 20, 21, 22, 23, 24, 25, 26, 30, 31, 32, 33, 34, 35, 36, 37, 38, 39, 40, 41, 42, 43] (by decide +kernel) (by decide +kernel)
set_option maxRecDepth 20000 in
theorem gX0_prepare_X1_copyFrom : GoodIn wsX0_prepare (wsV RX0 23 RX1 yX1_copyFrom wsX1_copyFrom) := goodIn_app (goodIn_of _ (by decide +kernel)) ggX0_prepare_X1_copyFrom
theorem dX0_prepare_0 : decode cX0_prepare 0 = .ok (.aload_n 0, 1) := by decide +kernel
theorem dX0_prepare_1 : decode cX0_prepare 1 = .ok (.getfield 11, 3) := by decide +kernel
theorem dX0_prepare_4 : decode cX0_prepare 4 = .ok (.aload_n 0, 1) := by decide +kernel
theorem dX0_prepare_5 : decode cX0_prepare 5 = .ok (.getfield 16, 3) := by decide +kernel
theorem dX0_prepare_8 : decode cX0_prepare 8 = .ok (.aload_n 0, 1) := by decide +kernel
theorem dX0_prepare_9 : decode cX0_prepare 9 = .ok (.getfield 20, 3) := by decide +kernel
theorem dX0_prepare_12 : decode cX0_prepare 12 = .ok (.iadd, 1) := by decide +kernel
theorem dX0_prepare_13 : decode cX0_prepare 13 = .ok (.bipush 6, 2) := by decide +kernel
theorem dX0_prepare_15 : decode cX0_prepare 15 = .ok (.irem, 1) := by decide +kernel
theorem dX0_prepare_16 : decode cX0_prepare 16 = .ok (.aaload, 1) := by decide +kernel
theorem dX0_prepare_17 : decode cX0_prepare 17 = .ok (.aload_n 1, 1) := by decide +kernel
theorem dX0_prepare_18 : decode cX0_prepare 18 = .ok (.invokevirtual 23, 3) := by decide +kernel
theorem dX0_prepare_21 : decode cX0_prepare 21 = .ok (.return_, 1) := by decide +kernel
theorem dX0_keepPrepared_0 : decode cX0_keepPrepared 0 = .ok (.aload_n 0, 1) := by decide +kernel
theorem dX0_keepPrepared_1 : decode cX0_keepPrepared 1 = .ok (.getfield 20, 3) := by decide +kernel
theorem dX0_keepPrepared_4 : decode cX0_keepPrepared 4 = .ok (.iconst 5, 1) := by decide +kernel
theorem dX0_keepPrepared_5 : decode cX0_keepPrepared 5 = .ok (.if_icmp .ge 16, 3) := by decide +kernel
theorem dX0_keepPrepared_8 : decode cX0_keepPrepared 8 = .ok (.aload_n 0, 1) := by decide +kernel
theorem dX0_keepPrepared_9 : decode cX0_keepPrepared 9 = .ok (.dup, 1) := by decide +kernel
theorem dX0_keepPrepared_10 : decode cX0_keepPrepared 10 = .ok (.getfield 20, 3) := by decide +kernel
theorem dX0_keepPrepared_13 : decode cX0_keepPrepared 13 = .ok (.iconst 1, 1) := by decide +kernel
theorem dX0_keepPrepared_14 : decode cX0_keepPrepared 14 = .ok (.iadd, 1) := by decide +kernel
theorem dX0_keepPrepared_15 : decode cX0_keepPrepared 15 = .ok (.putfield 20, 3) := by decide +kernel
theorem dX0_keepPrepared_18 : decode cX0_keepPrepared 18 = .ok (.goto 16, 3) := by decide +kernel
theorem dX0_keepPrepared_21 : decode cX0_keepPrepared 21 = .ok (.aload_n 0, 1) := by decide +kernel
theorem dX0_keepPrepared_22 : decode cX0_keepPrepared 22 = .ok (.aload_n 0, 1) := by decide +kernel
theorem dX0_keepPrepared_23 : decode cX0_keepPrepared 23 = .ok (.getfield 16, 3) := by decide +kernel
theorem dX0_keepPrepared_26 : decode cX0_keepPrepared 26 = .ok (.iconst 1, 1) := by decide +kernel
theorem dX0_keepPrepared_27 : decode cX0_keepPrepared 27 = .ok (.iadd, 1) := by decide +kernel
theorem dX0_keepPrepared_28 : decode cX0_keepPrepared 28 = .ok (.bipush 6, 2) := by decide +kernel
theorem dX0_keepPrepared_30 : decode cX0_keepPrepared 30 = .ok (.irem, 1) := by decide +kernel
theorem dX0_keepPrepared_31 : decode cX0_keepPrepared 31 = .ok (.putfield 16, 3) := by decide +kernel
theorem dX0_keepPrepared_34 : decode cX0_keepPrepared 34 = .ok (.return_, 1) := by decide +kernel
set_option maxRecDepth 20000 in
theorem ggX0_takeBack_X1_copyFrom : GoodIn wsX0_takeBack wsX1_copyFrom := goodIn_r _ [8, 9, 10, 11, 12, 13, 14, 15, 16, 17, 18, 19, 20, 21, 22, 23, 24, 25, 26, 30, 31, 32, 33, 34, 35, 36, 37, 38, 39, 40, 41, 42, 43] (by decide +kernel) (by decide +kernel)
set_option maxRecDepth 20000 in
theorem gX0_takeBack_X1_copyFrom : GoodIn wsX0_takeBack (wsV RX0 23 RX1 yX1_copyFrom wsX1_copyFrom) := goodIn_app (goodIn_of _ (by decide +kernel)) ggX0_takeBack_X1_copyFrom
theorem dX0_takeBack_0 : decode cX0_takeBack 0 = .ok (.aload_n 0, 1) := by decide +kernel
theorem dX0_takeBack_1 : decode cX0_takeBack 1 = .ok (.dup, 1) := by decide +kernel
theorem dX0_takeBack_2 : decode cX0_takeBack 2 = .ok (.getfield 20, 3) := by decide +kernel
theorem dX0_takeBack_5 : decode cX0_takeBack 5 = .ok (.iconst 1, 1) := by decide +kernel
theorem dX0_takeBack_6 : decode cX0_takeBack 6 = .ok (.isub, 1) := by decide +kernel
theorem dX0_takeBack_7 : decode cX0_takeBack 7 = .ok (.putfield 20, 3) := by decide +kernel
theorem dX0_takeBack_10 : decode cX0_takeBack 10 = .ok (.aload_n 1, 1) := by decide +kernel
theorem dX0_takeBack_11 : decode cX0_takeBack 11 = .ok (.aload_n 0, 1) := by decide +kernel
theorem dX0_takeBack_12 : decode cX0_takeBack 12 = .ok (.getfield 11, 3) := by decide +kernel
theorem dX0_takeBack_15 : decode cX0_takeBack 15 = .ok (.aload_n 0, 1) := by decide +kernel
theorem dX0_takeBack_16 : decode cX0_takeBack 16 = .ok (.getfield 16, 3) := by decide +kernel
theorem dX0_takeBack_19 : decode cX0_takeBack 19 = .ok (.aload_n 0, 1) := by decide +kernel
theorem dX0_takeBack_20 : decode cX0_takeBack 20 = .ok (.getfield 20, 3) := by decide +kernel
theorem dX0_takeBack_23 : decode cX0_takeBack 23 = .ok (.iadd, 1) := by decide +kernel
theorem dX0_takeBack_24 : decode cX0_takeBack 24 = .ok (.bipush 6, 2) := by decide +kernel
theorem dX0_takeBack_26 : decode cX0_takeBack 26 = .ok (.irem, 1) := by decide +kernel
theorem dX0_takeBack_27 : decode cX0_takeBack 27 = .ok (.aaload, 1) := by decide +kernel
theorem dX0_takeBack_28 : decode cX0_takeBack 28 = .ok (.invokevirtual 23, 3) := by decide +kernel
theorem dX0_takeBack_31 : decode cX0_takeBack 31 = .ok (.aload_n 0, 1) := by decide +kernel
theorem dX0_takeBack_32 : decode cX0_takeBack 32 = .ok (.getfield 20, 3) := by decide +kernel
theorem dX0_takeBack_35 : decode cX0_takeBack 35 = .ok (.ireturn, 1) := by decide +kernel
set_option maxRecDepth 20000 in
theorem ggX1_init_J7_fill_53178 : GoodIn wsX1_init wsJ7_fill_53178 := goodIn_r _ [22] (by decide +kernel) (by decide +kernel)
set_option maxRecDepth 20000 in
theorem gX1_init_J7_fill_53178 : GoodIn wsX1_init (va_wsS RX1 51 yJ7_fill_53178 wsJ7_fill_53178) := goodIn_app (goodIn_of _ (by decide +kernel)) ggX1_init_J7_fill_53178
theorem dX1_init_0 : decode cX1_init 0 = .ok (.aload_n 0, 1) := by decide +kernel
theorem dX1_init_1 : decode cX1_init 1 = .ok (.invokespecial 3, 3) := by decide +kernel
theorem dX1_init_4 : decode cX1_init 4 = .ok (.aload_n 0, 1) := by decide +kernel
theorem dX1_init_5 : decode cX1_init 5 = .ok (.iconst 5, 1) := by decide +kernel
theorem dX1_init_6 : decode cX1_init 6 = .ok (.newarray .int, 2) := by decide +kernel
theorem dX1_init_8 : decode cX1_init 8 = .ok (.putfield 9, 3) := by decide +kernel
theorem dX1_init_11 : decode cX1_init 11 = .ok (.aload_n 0, 1) := by decide +kernel
theorem dX1_init_12 : decode cX1_init 12 = .ok (.bipush 48, 2) := by decide +kernel
theorem dX1_init_14 : decode cX1_init 14 = .ok (.newarray .int, 2) := by decide +kernel
theorem dX1_init_16 : decode cX1_init 16 = .ok (.putfield 15, 3) := by decide +kernel
theorem dX1_init_19 : decode cX1_init 19 = .ok (.aload_n 0, 1) := by decide +kernel
theorem dX1_init_20 : decode cX1_init 20 = .ok (.bipush 48, 2) := by decide +kernel
theorem dX1_init_22 : decode cX1_init 22 = .ok (.newarray .int, 2) := by decide +kernel
theorem dX1_init_24 : decode cX1_init 24 = .ok (.putfield 18, 3) := by decide +kernel
theorem dX1_init_27 : decode cX1_init 27 = .ok (.aload_n 0, 1) := by decide +kernel
theorem dX1_init_28 : decode cX1_init 28 = .ok (.bipush 48, 2) := by decide +kernel
theorem dX1_init_30 : decode cX1_init 30 = .ok (.newarray .int, 2) := by decide +kernel
theorem dX1_init_32 : decode cX1_init 32 = .ok (.putfield 21, 3) := by decide +kernel
theorem dX1_init_35 : decode cX1_init 35 = .ok (.aload_n 0, 1) := by decide +kernel
theorem dX1_init_36 : decode cX1_init 36 = .ok (.bipush 48, 2) := by decide +kernel
theorem dX1_init_38 : decode cX1_init 38 = .ok (.newarray .int, 2) := by decide +kernel
theorem dX1_init_40 : decode cX1_init 40 = .ok (.putfield 24, 3) := by decide +kernel
theorem dX1_init_43 : decode cX1_init 43 = .ok (.aload_n 0, 1) := by decide +kernel
theorem dX1_init_44 : decode cX1_init 44 = .ok (.sipush 336, 3) := by decide +kernel
theorem dX1_init_47 : decode cX1_init 47 = .ok (.newarray .int, 2) := by decide +kernel
theorem dX1_init_49 : decode cX1_init 49 = .ok (.putfield 27, 3) := by decide +kernel
theorem dX1_init_52 : decode cX1_init 52 = .ok (.aload_n 0, 1) := by decide +kernel
theorem dX1_init_53 : decode cX1_init 53 = .ok (.bipush 10, 2) := by decide +kernel
theorem dX1_init_55 : decode cX1_init 55 = .ok (.newarray .int, 2) := by decide +kernel
theorem dX1_init_57 : decode cX1_init 57 = .ok (.putfield 30, 3) := by decide +kernel
theorem dX1_init_60 : decode cX1_init 60 = .ok (.aload_n 0, 1) := by decide +kernel
theorem dX1_init_61 : decode cX1_init 61 = .ok (.bipush 10, 2) := by decide +kernel
theorem dX1_init_63 : decode cX1_init 63 = .ok (.newarray .int, 2) := by decide +kernel
theorem dX1_init_65 : decode cX1_init 65 = .ok (.putfield 33, 3) := by decide +kernel
theorem dX1_init_68 : decode cX1_init 68 = .ok (.aload_n 0, 1) := by decide +kernel
theorem dX1_init_69 : decode cX1_init 69 = .ok (.bipush 10, 2) := by decide +kernel
theorem dX1_init_71 : decode cX1_init 71 = .ok (.newarray .int, 2) := by decide +kernel
theorem dX1_init_73 : decode cX1_init 73 = .ok (.putfield 36, 3) := by decide +kernel
theorem dX1_init_76 : decode cX1_init 76 = .ok (.aload_n 0, 1) := by decide +kernel
theorem dX1_init_77 : decode cX1_init 77 = .ok (.bipush 10, 2) := by decide +kernel
theorem dX1_init_79 : decode cX1_init 79 = .ok (.newarray .int, 2) := by decide +kernel
theorem dX1_init_81 : decode cX1_init 81 = .ok (.putfield 39, 3) := by decide +kernel
theorem dX1_init_84 : decode cX1_init 84 = .ok (.getstatic 42, 3) := by decide +kernel
theorem dX1_init_87 : decode cX1_init 87 = .ok (.iconst 0, 1) := by decide +kernel
theorem dX1_init_88 : decode cX1_init 88 = .ok (.aload_n 0, 1) := by decide +kernel
theorem dX1_init_89 : decode cX1_init 89 = .ok (.getfield 9, 3) := by decide +kernel
theorem dX1_init_92 : decode cX1_init 92 = .ok (.iconst 0, 1) := by decide +kernel
theorem dX1_init_93 : decode cX1_init 93 = .ok (.iconst 5, 1) := by decide +kernel
theorem dX1_init_94 : decode cX1_init 94 = .ok (.invokestatic 45, 3) := by decide +kernel
theorem dX1_init_97 : decode cX1_init 97 = .ok (.aload_n 0, 1) := by decide +kernel
theorem dX1_init_98 : decode cX1_init 98 = .ok (.getfield 27, 3) := by decide +kernel
theorem dX1_init_101 : decode cX1_init 101 = .ok (.iconst (-1), 1) := by decide +kernel
theorem dX1_init_102 : decode cX1_init 102 = .ok (.invokestatic 51, 3) := by decide +kernel
theorem dX1_init_105 : decode cX1_init 105 = .ok (.return_, 1) := by decide +kernel
theorem dX1_copyFrom_0 : decode cX1_copyFrom 0 = .ok (.aload_n 0, 1) := by decide +kernel
theorem dX1_copyFrom_1 : decode cX1_copyFrom 1 = .ok (.aload_n 1, 1) := by decide +kernel
theorem dX1_copyFrom_2 : decode cX1_copyFrom 2 = .ok (.getfield 57, 3) := by decide +kernel
theorem dX1_copyFrom_5 : decode cX1_copyFrom 5 = .ok (.putfield 57, 3) := by decide +kernel
theorem dX1_copyFrom_8 : decode cX1_copyFrom 8 = .ok (.aload_n 0, 1) := by decide +kernel
theorem dX1_copyFrom_9 : decode cX1_copyFrom 9 = .ok (.aload_n 1, 1) := by decide +kernel
theorem dX1_copyFrom_10 : decode cX1_copyFrom 10 = .ok (.getfield 61, 3) := by decide +kernel
theorem dX1_copyFrom_13 : decode cX1_copyFrom 13 = .ok (.putfield 61, 3) := by decide +kernel
theorem dX1_copyFrom_16 : decode cX1_copyFrom 16 = .ok (.aload_n 0, 1) := by decide +kernel
theorem dX1_copyFrom_17 : decode cX1_copyFrom 17 = .ok (.aload_n 1, 1) := by decide +kernel
theorem dX1_copyFrom_18 : decode cX1_copyFrom 18 = .ok (.getfield 64, 3) := by decide +kernel
theorem dX1_copyFrom_21 : decode cX1_copyFrom 21 = .ok (.putfield 64, 3) := by decide +kernel
theorem dX1_copyFrom_24 : decode cX1_copyFrom 24 = .ok (.aload_n 0, 1) := by decide +kernel
theorem dX1_copyFrom_25 : decode cX1_copyFrom 25 = .ok (.aload_n 1, 1) := by decide +kernel
theorem dX1_copyFrom_26 : decode cX1_copyFrom 26 = .ok (.getfield 67, 3) := by decide +kernel
theorem dX1_copyFrom_29 : decode cX1_copyFrom 29 = .ok (.putfield 67, 3) := by decide +kernel
theorem dX1_copyFrom_32 : decode cX1_copyFrom 32 = .ok (.aload_n 1, 1) := by decide +kernel
theorem dX1_copyFrom_33 : decode cX1_copyFrom 33 = .ok (.getfield 9, 3) := by decide +kernel
theorem dX1_copyFrom_36 : decode cX1_copyFrom 36 = .ok (.iconst 0, 1) := by decide +kernel
theorem dX1_copyFrom_37 : decode cX1_copyFrom 37 = .ok (.aload_n 0, 1) := by decide +kernel
theorem dX1_copyFrom_38 : decode cX1_copyFrom 38 = .ok (.getfield 9, 3) := by decide +kernel
theorem dX1_copyFrom_41 : decode cX1_copyFrom 41 = .ok (.iconst 0, 1) := by decide +kernel
theorem dX1_copyFrom_42 : decode cX1_copyFrom 42 = .ok (.iconst 5, 1) := by decide +kernel
theorem dX1_copyFrom_43 : decode cX1_copyFrom 43 = .ok (.invokestatic 45, 3) := by decide +kernel
theorem dX1_copyFrom_46 : decode cX1_copyFrom 46 = .ok (.aload_n 1, 1) := by decide +kernel
theorem dX1_copyFrom_47 : decode cX1_copyFrom 47 = .ok (.getfield 15, 3) := by decide +kernel
theorem dX1_copyFrom_50 : decode cX1_copyFrom 50 = .ok (.iconst 0, 1) := by decide +kernel
theorem dX1_copyFrom_51 : decode cX1_copyFrom 51 = .ok (.aload_n 0, 1) := by decide +kernel
theorem dX1_copyFrom_52 : decode cX1_copyFrom 52 = .ok (.getfield 15, 3) := by decide +kernel
theorem dX1_copyFrom_55 : decode cX1_copyFrom 55 = .ok (.iconst 0, 1) := by decide +kernel
theorem dX1_copyFrom_56 : decode cX1_copyFrom 56 = .ok (.bipush 48, 2) := by decide +kernel
theorem dX1_copyFrom_58 : decode cX1_copyFrom 58 = .ok (.invokestatic 45, 3) := by decide +kernel
theorem dX1_copyFrom_61 : decode cX1_copyFrom 61 = .ok (.aload_n 1, 1) := by decide +kernel
theorem dX1_copyFrom_62 : decode cX1_copyFrom 62 = .ok (.getfield 18, 3) := by decide +kernel
theorem dX1_copyFrom_65 : decode cX1_copyFrom 65 = .ok (.iconst 0, 1) := by decide +kernel
theorem dX1_copyFrom_66 : decode cX1_copyFrom 66 = .ok (.aload_n 0, 1) := by decide +kernel
theorem dX1_copyFrom_67 : decode cX1_copyFrom 67 = .ok (.getfield 18, 3) := by decide +kernel
theorem dX1_copyFrom_70 : decode cX1_copyFrom 70 = .ok (.iconst 0, 1) := by decide +kernel
theorem dX1_copyFrom_71 : decode cX1_copyFrom 71 = .ok (.bipush 48, 2) := by decide +kernel
theorem dX1_copyFrom_73 : decode cX1_copyFrom 73 = .ok (.invokestatic 45, 3) := by decide +kernel
theorem dX1_copyFrom_76 : decode cX1_copyFrom 76 = .ok (.aload_n 1, 1) := by decide +kernel
theorem dX1_copyFrom_77 : decode cX1_copyFrom 77 = .ok (.getfield 21, 3) := by decide +kernel
theorem dX1_copyFrom_80 : decode cX1_copyFrom 80 = .ok (.iconst 0, 1) := by decide +kernel
theorem dX1_copyFrom_81 : decode cX1_copyFrom 81 = .ok (.aload_n 0, 1) := by decide +kernel
theorem dX1_copyFrom_82 : decode cX1_copyFrom 82 = .ok (.getfield 21, 3) := by decide +kernel
theorem dX1_copyFrom_85 : decode cX1_copyFrom 85 = .ok (.iconst 0, 1) := by decide +kernel
theorem dX1_copyFrom_86 : decode cX1_copyFrom 86 = .ok (.bipush 48, 2) := by decide +kernel
theorem dX1_copyFrom_88 : decode cX1_copyFrom 88 = .ok (.invokestatic 45, 3) := by decide +kernel
theorem dX1_copyFrom_91 : decode cX1_copyFrom 91 = .ok (.aload_n 1, 1) := by decide +kernel
theorem dX1_copyFrom_92 : decode cX1_copyFrom 92 = .ok (.getfield 24, 3) := by decide +kernel
theorem dX1_copyFrom_95 : decode cX1_copyFrom 95 = .ok (.iconst 0, 1) := by decide +kernel
theorem dX1_copyFrom_96 : decode cX1_copyFrom 96 = .ok (.aload_n 0, 1) := by decide +kernel
theorem dX1_copyFrom_97 : decode cX1_copyFrom 97 = .ok (.getfield 24, 3) := by decide +kernel
theorem dX1_copyFrom_100 : decode cX1_copyFrom 100 = .ok (.iconst 0, 1) := by decide +kernel
theorem dX1_copyFrom_101 : decode cX1_copyFrom 101 = .ok (.bipush 48, 2) := by decide +kernel
theorem dX1_copyFrom_103 : decode cX1_copyFrom 103 = .ok (.invokestatic 45, 3) := by decide +kernel
theorem dX1_copyFrom_106 : decode cX1_copyFrom 106 = .ok (.aload_n 1, 1) := by decide +kernel
theorem dX1_copyFrom_107 : decode cX1_copyFrom 107 = .ok (.getfield 27, 3) := by decide +kernel
theorem dX1_copyFrom_110 : decode cX1_copyFrom 110 = .ok (.iconst 0, 1) := by decide +kernel
theorem dX1_copyFrom_111 : decode cX1_copyFrom 111 = .ok (.aload_n 0, 1) := by decide +kernel
theorem dX1_copyFrom_112 : decode cX1_copyFrom 112 = .ok (.getfield 27, 3) := by decide +kernel
theorem dX1_copyFrom_115 : decode cX1_copyFrom 115 = .ok (.iconst 0, 1) := by decide +kernel
theorem dX1_copyFrom_116 : decode cX1_copyFrom 116 = .ok (.sipush 336, 3) := by decide +kernel
theorem dX1_copyFrom_119 : decode cX1_copyFrom 119 = .ok (.invokestatic 45, 3) := by decide +kernel
theorem dX1_copyFrom_122 : decode cX1_copyFrom 122 = .ok (.aload_n 1, 1) := by decide +kernel
theorem dX1_copyFrom_123 : decode cX1_copyFrom 123 = .ok (.getfield 30, 3) := by decide +kernel
theorem dX1_copyFrom_126 : decode cX1_copyFrom 126 = .ok (.iconst 0, 1) := by decide +kernel
theorem dX1_copyFrom_127 : decode cX1_copyFrom 127 = .ok (.aload_n 0, 1) := by decide +kernel
theorem dX1_copyFrom_128 : decode cX1_copyFrom 128 = .ok (.getfield 30, 3) := by decide +kernel
theorem dX1_copyFrom_131 : decode cX1_copyFrom 131 = .ok (.iconst 0, 1) := by decide +kernel
theorem dX1_copyFrom_132 : decode cX1_copyFrom 132 = .ok (.bipush 10, 2) := by decide +kernel
theorem dX1_copyFrom_134 : decode cX1_copyFrom 134 = .ok (.invokestatic 45, 3) := by decide +kernel
theorem dX1_copyFrom_137 : decode cX1_copyFrom 137 = .ok (.aload_n 1, 1) := by decide +kernel
theorem dX1_copyFrom_138 : decode cX1_copyFrom 138 = .ok (.getfield 33, 3) := by decide +kernel
theorem dX1_copyFrom_141 : decode cX1_copyFrom 141 = .ok (.iconst 0, 1) := by decide +kernel
theorem dX1_copyFrom_142 : decode cX1_copyFrom 142 = .ok (.aload_n 0, 1) := by decide +kernel
theorem dX1_copyFrom_143 : decode cX1_copyFrom 143 = .ok (.getfield 33, 3) := by decide +kernel
theorem dX1_copyFrom_146 : decode cX1_copyFrom 146 = .ok (.iconst 0, 1) := by decide +kernel
theorem dX1_copyFrom_147 : decode cX1_copyFrom 147 = .ok (.bipush 10, 2) := by decide +kernel
theorem dX1_copyFrom_149 : decode cX1_copyFrom 149 = .ok (.invokestatic 45, 3) := by decide +kernel
theorem dX1_copyFrom_152 : decode cX1_copyFrom 152 = .ok (.aload_n 1, 1) := by decide +kernel
theorem dX1_copyFrom_153 : decode cX1_copyFrom 153 = .ok (.getfield 36, 3) := by decide +kernel
theorem dX1_copyFrom_156 : decode cX1_copyFrom 156 = .ok (.iconst 0, 1) := by decide +kernel
theorem dX1_copyFrom_157 : decode cX1_copyFrom 157 = .ok (.aload_n 0, 1) := by decide +kernel
theorem dX1_copyFrom_158 : decode cX1_copyFrom 158 = .ok (.getfield 36, 3) := by decide +kernel
theorem dX1_copyFrom_161 : decode cX1_copyFrom 161 = .ok (.iconst 0, 1) := by decide +kernel
theorem dX1_copyFrom_162 : decode cX1_copyFrom 162 = .ok (.bipush 10, 2) := by decide +kernel
theorem dX1_copyFrom_164 : decode cX1_copyFrom 164 = .ok (.invokestatic 45, 3) := by decide +kernel
theorem dX1_copyFrom_167 : decode cX1_copyFrom 167 = .ok (.aload_n 1, 1) := by decide +kernel
theorem dX1_copyFrom_168 : decode cX1_copyFrom 168 = .ok (.getfield 39, 3) := by decide +kernel
theorem dX1_copyFrom_171 : decode cX1_copyFrom 171 = .ok (.iconst 0, 1) := by decide +kernel
theorem dX1_copyFrom_172 : decode cX1_copyFrom 172 = .ok (.aload_n 0, 1) := by decide +kernel
theorem dX1_copyFrom_173 : decode cX1_copyFrom 173 = .ok (.getfield 39, 3) := by decide +kernel
theorem dX1_copyFrom_176 : decode cX1_copyFrom 176 = .ok (.iconst 0, 1) := by decide +kernel
theorem dX1_copyFrom_177 : decode cX1_copyFrom 177 = .ok (.bipush 10, 2) := by decide +kernel
theorem dX1_copyFrom_179 : decode cX1_copyFrom 179 = .ok (.invokestatic 45, 3) := by decide +kernel
theorem dX1_copyFrom_182 : decode cX1_copyFrom 182 = .ok (.return_, 1) := by decide +kernel
theorem dX1_isFree_0 : decode cX1_isFree 0 = .ok (.aload_n 0, 1) := by decide +kernel
theorem dX1_isFree_1 : decode cX1_isFree 1 = .ok (.getfield 15, 3) := by decide +kernel
theorem dX1_isFree_4 : decode cX1_isFree 4 = .ok (.iload_n 1, 1) := by decide +kernel
theorem dX1_isFree_5 : decode cX1_isFree 5 = .ok (.iaload, 1) := by decide +kernel
theorem dX1_isFree_6 : decode cX1_isFree 6 = .ok (.ifCond .ne 7, 3) := by decide +kernel
theorem dX1_isFree_9 : decode cX1_isFree 9 = .ok (.iconst 1, 1) := by decide +kernel
theorem dX1_isFree_10 : decode cX1_isFree 10 = .ok (.goto 4, 3) := by decide +kernel
theorem dX1_isFree_13 : decode cX1_isFree 13 = .ok (.iconst 0, 1) := by decide +kernel
theorem dX1_isFree_14 : decode cX1_isFree 14 = .ok (.ireturn, 1) := by decide +kernel
set_option maxRecDepth 20000 in
theorem ggX1_codeOn_X3_codeFor : GoodIn wsX1_codeOn wsX3_codeFor := goodIn_r _ [4, 5, 6, 3, 7] (by decide +kernel) (by decide +kernel)
set_option maxRecDepth 20000 in
theorem gX1_codeOn_X3_codeFor_n70 : GoodIn wsX1_codeOn (wsX3_codeFor) := ggX1_codeOn_X3_codeFor
theorem dX1_codeOn_0 : decode cX1_codeOn 0 = .ok (.aload_n 0, 1) := by decide +kernel
theorem dX1_codeOn_1 : decode cX1_codeOn 1 = .ok (.getfield 15, 3) := by decide +kernel
theorem dX1_codeOn_4 : decode cX1_codeOn 4 = .ok (.iload_n 1, 1) := by decide +kernel
theorem dX1_codeOn_5 : decode cX1_codeOn 5 = .ok (.iaload, 1) := by decide +kernel
theorem dX1_codeOn_6 : decode cX1_codeOn 6 = .ok (.iload_n 1, 1) := by decide +kernel
theorem dX1_codeOn_7 : decode cX1_codeOn 7 = .ok (.invokestatic 70, 3) := by decide +kernel
theorem dX1_codeOn_10 : decode cX1_codeOn 10 = .ok (.ireturn, 1) := by decide +kernel
theorem dX1_isLocked_0 : decode cX1_isLocked 0 = .ok (.aload_n 0, 1) := by decide +kernel
theorem dX1_isLocked_1 : decode cX1_isLocked 1 = .ok (.getfield 61, 3) := by decide +kernel
theorem dX1_isLocked_4 : decode cX1_isLocked 4 = .ok (.iconst 3, 1) := by decide +kernel
theorem dX1_isLocked_5 : decode cX1_isLocked 5 = .ok (.if_icmp .lt 7, 3) := by decide +kernel
theorem dX1_isLocked_8 : decode cX1_isLocked 8 = .ok (.iconst 1, 1) := by decide +kernel
theorem dX1_isLocked_9 : decode cX1_isLocked 9 = .ok (.goto 4, 3) := by decide +kernel
theorem dX1_isLocked_12 : decode cX1_isLocked 12 = .ok (.iconst 0, 1) := by decide +kernel
theorem dX1_isLocked_13 : decode cX1_isLocked 13 = .ok (.ireturn, 1) := by decide +kernel
theorem dX1_rests_0 : decode cX1_rests 0 = .ok (.aload_n 0, 1) := by decide +kernel
theorem dX1_rests_1 : decode cX1_rests 1 = .ok (.getfield 27, 3) := by decide +kernel
theorem dX1_rests_4 : decode cX1_rests 4 = .ok (.iload_n 1, 1) := by decide +kernel
theorem dX1_rests_5 : decode cX1_rests 5 = .ok (.iaload, 1) := by decide +kernel
theorem dX1_rests_6 : decode cX1_rests 6 = .ok (.iconst (-1), 1) := by decide +kernel
theorem dX1_rests_7 : decode cX1_rests 7 = .ok (.if_icmp .eq 27, 3) := by decide +kernel
theorem dX1_rests_10 : decode cX1_rests 10 = .ok (.aload_n 0, 1) := by decide +kernel
theorem dX1_rests_11 : decode cX1_rests 11 = .ok (.getfield 57, 3) := by decide +kernel
theorem dX1_rests_14 : decode cX1_rests 14 = .ok (.aload_n 0, 1) := by decide +kernel
theorem dX1_rests_15 : decode cX1_rests 15 = .ok (.getfield 27, 3) := by decide +kernel
theorem dX1_rests_18 : decode cX1_rests 18 = .ok (.iload_n 1, 1) := by decide +kernel
theorem dX1_rests_19 : decode cX1_rests 19 = .ok (.iaload, 1) := by decide +kernel
theorem dX1_rests_20 : decode cX1_rests 20 = .ok (.aload_n 0, 1) := by decide +kernel
theorem dX1_rests_21 : decode cX1_rests 21 = .ok (.getfield 9, 3) := by decide +kernel
theorem dX1_rests_24 : decode cX1_rests 24 = .ok (.iconst 0, 1) := by decide +kernel
theorem dX1_rests_25 : decode cX1_rests 25 = .ok (.iaload, 1) := by decide +kernel
theorem dX1_rests_26 : decode cX1_rests 26 = .ok (.iadd, 1) := by decide +kernel
theorem dX1_rests_27 : decode cX1_rests 27 = .ok (.if_icmp .ge 7, 3) := by decide +kernel
theorem dX1_rests_30 : decode cX1_rests 30 = .ok (.iconst 1, 1) := by decide +kernel
theorem dX1_rests_31 : decode cX1_rests 31 = .ok (.goto 4, 3) := by decide +kernel
theorem dX1_rests_34 : decode cX1_rests 34 = .ok (.iconst 0, 1) := by decide +kernel
theorem dX1_rests_35 : decode cX1_rests 35 = .ok (.ireturn, 1) := by decide +kernel
set_option maxRecDepth 20000 in
theorem ggX1_restsToday_X3_weekdayOf : GoodIn wsX1_restsToday wsX3_weekdayOf := goodIn_r _ [4] (by decide +kernel) (by decide +kernel)
set_option maxRecDepth 20000 in
theorem gX1_restsToday_X3_weekdayOf_n74 : GoodIn wsX1_restsToday (wsX3_weekdayOf) := ggX1_restsToday_X3_weekdayOf
set_option maxRecDepth 20000 in
theorem ggX1_restsToday_X3_indexFor : GoodIn wsX1_restsToday wsX3_indexFor := goodIn_r _ [6] (by decide +kernel) (by decide +kernel)
set_option maxRecDepth 20000 in
theorem gX1_restsToday_X3_indexFor_n78 : GoodIn wsX1_restsToday (wsX3_indexFor) := ggX1_restsToday_X3_indexFor
set_option maxRecDepth 20000 in
theorem ggX1_restsToday_X1_rests : GoodIn wsX1_restsToday wsX1_rests := goodIn_r _ [11, 12, 1, 13, 14, 15, 16, 17, 18, 19, 20, 21, 22, 23, 24, 25, 26, 27] (by decide +kernel) (by decide +kernel)
set_option maxRecDepth 20000 in
theorem gX1_restsToday_X1_rests : GoodIn wsX1_restsToday (wsV RX1 81 RX1 yX1_rests wsX1_rests) := goodIn_app (goodIn_of _ (by decide +kernel)) ggX1_restsToday_X1_rests
theorem dX1_restsToday_0 : decode cX1_restsToday 0 = .ok (.aload_n 0, 1) := by decide +kernel
theorem dX1_restsToday_1 : decode cX1_restsToday 1 = .ok (.aload_n 0, 1) := by decide +kernel
theorem dX1_restsToday_2 : decode cX1_restsToday 2 = .ok (.getfield 57, 3) := by decide +kernel
theorem dX1_restsToday_5 : decode cX1_restsToday 5 = .ok (.invokestatic 74, 3) := by decide +kernel
theorem dX1_restsToday_8 : decode cX1_restsToday 8 = .ok (.iload_n 1, 1) := by decide +kernel
theorem dX1_restsToday_9 : decode cX1_restsToday 9 = .ok (.invokestatic 78, 3) := by decide +kernel
theorem dX1_restsToday_12 : decode cX1_restsToday 12 = .ok (.invokevirtual 81, 3) := by decide +kernel
theorem dX1_restsToday_15 : decode cX1_restsToday 15 = .ok (.ireturn, 1) := by decide +kernel
set_option maxRecDepth 20000 in
theorem ggX1_placeWith_X3_indexOfCode : GoodIn wsX1_placeWith wsX3_indexOfCode := goodIn_r _ [4, 5, 6, 3, 7, 8, 9, 10, 11, 12, 13, 14, 15, 16] (by decide +kernel) (by decide +kernel)
set_option maxRecDepth 20000 in
theorem gX1_placeWith_X3_indexOfCode_n85 : GoodIn wsX1_placeWith (wsX3_indexOfCode) := ggX1_placeWith_X3_indexOfCode
theorem dX1_placeWith_0 : decode cX1_placeWith 0 = .ok (.iload_n 1, 1) := by decide +kernel
theorem dX1_placeWith_1 : decode cX1_placeWith 1 = .ok (.invokestatic 85, 3) := by decide +kernel
theorem dX1_placeWith_4 : decode cX1_placeWith 4 = .ok (.istore_n 2, 1) := by decide +kernel
theorem dX1_placeWith_5 : decode cX1_placeWith 5 = .ok (.iload_n 2, 1) := by decide +kernel
theorem dX1_placeWith_6 : decode cX1_placeWith 6 = .ok (.ifCond .ge 5, 3) := by decide +kernel
theorem dX1_placeWith_9 : decode cX1_placeWith 9 = .ok (.iconst (-1), 1) := by decide +kernel
theorem dX1_placeWith_10 : decode cX1_placeWith 10 = .ok (.ireturn, 1) := by decide +kernel
theorem dX1_placeWith_11 : decode cX1_placeWith 11 = .ok (.iload_n 2, 1) := by decide +kernel
theorem dX1_placeWith_12 : decode cX1_placeWith 12 = .ok (.bipush 48, 2) := by decide +kernel
theorem dX1_placeWith_14 : decode cX1_placeWith 14 = .ok (.irem, 1) := by decide +kernel
theorem dX1_placeWith_15 : decode cX1_placeWith 15 = .ok (.istore_n 3, 1) := by decide +kernel
theorem dX1_placeWith_16 : decode cX1_placeWith 16 = .ok (.aload_n 0, 1) := by decide +kernel
theorem dX1_placeWith_17 : decode cX1_placeWith 17 = .ok (.getfield 15, 3) := by decide +kernel
theorem dX1_placeWith_20 : decode cX1_placeWith 20 = .ok (.iload_n 3, 1) := by decide +kernel
theorem dX1_placeWith_21 : decode cX1_placeWith 21 = .ok (.iaload, 1) := by decide +kernel
theorem dX1_placeWith_22 : decode cX1_placeWith 22 = .ok (.iload_n 2, 1) := by decide +kernel
theorem dX1_placeWith_23 : decode cX1_placeWith 23 = .ok (.bipush 48, 2) := by decide +kernel
theorem dX1_placeWith_25 : decode cX1_placeWith 25 = .ok (.idiv, 1) := by decide +kernel
theorem dX1_placeWith_26 : decode cX1_placeWith 26 = .ok (.iconst 1, 1) := by decide +kernel
theorem dX1_placeWith_27 : decode cX1_placeWith 27 = .ok (.iadd, 1) := by decide +kernel
theorem dX1_placeWith_28 : decode cX1_placeWith 28 = .ok (.if_icmp .ne 7, 3) := by decide +kernel
theorem dX1_placeWith_31 : decode cX1_placeWith 31 = .ok (.iload_n 3, 1) := by decide +kernel
theorem dX1_placeWith_32 : decode cX1_placeWith 32 = .ok (.goto 4, 3) := by decide +kernel
theorem dX1_placeWith_35 : decode cX1_placeWith 35 = .ok (.iconst (-1), 1) := by decide +kernel
theorem dX1_placeWith_36 : decode cX1_placeWith 36 = .ok (.ireturn, 1) := by decide +kernel
set_option maxRecDepth 20000 in
theorem ggX1_placeToGive_X1_isFree : GoodIn wsX1_placeToGive wsX1_isFree := goodIn_r _ [5, 6, 23, 24, 25, 26, 27, 28, 29, 30, 31, 32, 33, 34, 35, 36] (by decide +kernel) (by decide +kernel)
set_option maxRecDepth 20000 in
theorem gX1_placeToGive_X1_isFree : GoodIn wsX1_placeToGive (wsV RX1 88 RX1 yX1_isFree wsX1_isFree) := goodIn_app (goodIn_of _ (by decide +kernel)) ggX1_placeToGive_X1_isFree
set_option maxRecDepth 20000 in
theorem ggX1_placeToGive_X1_restsToday : GoodIn wsX1_placeToGive wsX1_restsToday := goodIn_r _ [10, 11, 12, 13, 14, 15, 16, 17, 18, 19, 4, 20, 21, 22, 23, 24, 25, 26, 27, 28, 29, 30, 31, 32, 33, 34, 35, 36] (by decide +kernel) (by decide +kernel)
set_option maxRecDepth 20000 in
theorem gX1_placeToGive_X1_restsToday : GoodIn wsX1_placeToGive (wsV RX1 91 RX1 yX1_restsToday wsX1_restsToday) := goodIn_app (goodIn_of _ (by decide +kernel)) ggX1_placeToGive_X1_restsToday
theorem dX1_placeToGive_0 : decode cX1_placeToGive 0 = .ok (.iload_n 2, 1) := by decide +kernel
theorem dX1_placeToGive_1 : decode cX1_placeToGive 1 = .ok (.iconst 1, 1) := by decide +kernel
theorem dX1_placeToGive_2 : decode cX1_placeToGive 2 = .ok (.iadd, 1) := by decide +kernel
theorem dX1_placeToGive_3 : decode cX1_placeToGive 3 = .ok (.bipush 8, 2) := by decide +kernel
theorem dX1_placeToGive_5 : decode cX1_placeToGive 5 = .ok (.imul, 1) := by decide +kernel
theorem dX1_placeToGive_6 : decode cX1_placeToGive 6 = .ok (.istore_n 3, 1) := by decide +kernel
theorem dX1_placeToGive_7 : decode cX1_placeToGive 7 = .ok (.iload_n 1, 1) := by decide +kernel
theorem dX1_placeToGive_8 : decode cX1_placeToGive 8 = .ok (.bipush 8, 2) := by decide +kernel
theorem dX1_placeToGive_10 : decode cX1_placeToGive 10 = .ok (.imul, 1) := by decide +kernel
theorem dX1_placeToGive_11 : decode cX1_placeToGive 11 = .ok (.istore 4, 2) := by decide +kernel
theorem dX1_placeToGive_13 : decode cX1_placeToGive 13 = .ok (.iload 4, 2) := by decide +kernel
theorem dX1_placeToGive_15 : decode cX1_placeToGive 15 = .ok (.iload_n 3, 1) := by decide +kernel
theorem dX1_placeToGive_16 : decode cX1_placeToGive 16 = .ok (.if_icmp .ge 30, 3) := by decide +kernel
theorem dX1_placeToGive_19 : decode cX1_placeToGive 19 = .ok (.aload_n 0, 1) := by decide +kernel
theorem dX1_placeToGive_20 : decode cX1_placeToGive 20 = .ok (.iload 4, 2) := by decide +kernel
theorem dX1_placeToGive_22 : decode cX1_placeToGive 22 = .ok (.invokevirtual 88, 3) := by decide +kernel
theorem dX1_placeToGive_25 : decode cX1_placeToGive 25 = .ok (.ifCond .eq 15, 3) := by decide +kernel
theorem dX1_placeToGive_28 : decode cX1_placeToGive 28 = .ok (.aload_n 0, 1) := by decide +kernel
theorem dX1_placeToGive_29 : decode cX1_placeToGive 29 = .ok (.iload 4, 2) := by decide +kernel
theorem dX1_placeToGive_31 : decode cX1_placeToGive 31 = .ok (.invokevirtual 91, 3) := by decide +kernel
theorem dX1_placeToGive_34 : decode cX1_placeToGive 34 = .ok (.ifCond .ne 6, 3) := by decide +kernel
theorem dX1_placeToGive_37 : decode cX1_placeToGive 37 = .ok (.iload 4, 2) := by decide +kernel
theorem dX1_placeToGive_39 : decode cX1_placeToGive 39 = .ok (.ireturn, 1) := by decide +kernel
theorem dX1_placeToGive_40 : decode cX1_placeToGive 40 = .ok (.iinc 4 1, 3) := by decide +kernel
theorem dX1_placeToGive_43 : decode cX1_placeToGive 43 = .ok (.goto (-30), 3) := by decide +kernel
theorem dX1_placeToGive_46 : decode cX1_placeToGive 46 = .ok (.iconst (-1), 1) := by decide +kernel
theorem dX1_placeToGive_47 : decode cX1_placeToGive 47 = .ok (.ireturn, 1) := by decide +kernel
set_option maxRecDepth 20000 in
theorem ggX1_hasFreePlace_X1_isFree : GoodIn wsX1_hasFreePlace wsX1_isFree := goodIn_r _ [5, 6, 7, 8, 9, 10, 11, 12, 13, 14, 15, 16, 17, 18, 19, 20] (by decide +kernel) (by decide +kernel)
set_option maxRecDepth 20000 in
theorem gX1_hasFreePlace_X1_isFree : GoodIn wsX1_hasFreePlace (wsV RX1 88 RX1 yX1_isFree wsX1_isFree) := goodIn_app (goodIn_of _ (by decide +kernel)) ggX1_hasFreePlace_X1_isFree
theorem dX1_hasFreePlace_0 : decode cX1_hasFreePlace 0 = .ok (.iload_n 2, 1) := by decide +kernel
theorem dX1_hasFreePlace_1 : decode cX1_hasFreePlace 1 = .ok (.iconst 1, 1) := by decide +kernel
theorem dX1_hasFreePlace_2 : decode cX1_hasFreePlace 2 = .ok (.iadd, 1) := by decide +kernel
theorem dX1_hasFreePlace_3 : decode cX1_hasFreePlace 3 = .ok (.bipush 8, 2) := by decide +kernel
theorem dX1_hasFreePlace_5 : decode cX1_hasFreePlace 5 = .ok (.imul, 1) := by decide +kernel
theorem dX1_hasFreePlace_6 : decode cX1_hasFreePlace 6 = .ok (.istore_n 3, 1) := by decide +kernel
theorem dX1_hasFreePlace_7 : decode cX1_hasFreePlace 7 = .ok (.iload_n 1, 1) := by decide +kernel
theorem dX1_hasFreePlace_8 : decode cX1_hasFreePlace 8 = .ok (.bipush 8, 2) := by decide +kernel
theorem dX1_hasFreePlace_10 : decode cX1_hasFreePlace 10 = .ok (.imul, 1) := by decide +kernel
theorem dX1_hasFreePlace_11 : decode cX1_hasFreePlace 11 = .ok (.istore 4, 2) := by decide +kernel
theorem dX1_hasFreePlace_13 : decode cX1_hasFreePlace 13 = .ok (.iload 4, 2) := by decide +kernel
theorem dX1_hasFreePlace_15 : decode cX1_hasFreePlace 15 = .ok (.iload_n 3, 1) := by decide +kernel
theorem dX1_hasFreePlace_16 : decode cX1_hasFreePlace 16 = .ok (.if_icmp .ge 20, 3) := by decide +kernel
theorem dX1_hasFreePlace_19 : decode cX1_hasFreePlace 19 = .ok (.aload_n 0, 1) := by decide +kernel
theorem dX1_hasFreePlace_20 : decode cX1_hasFreePlace 20 = .ok (.iload 4, 2) := by decide +kernel
theorem dX1_hasFreePlace_22 : decode cX1_hasFreePlace 22 = .ok (.invokevirtual 88, 3) := by decide +kernel
theorem dX1_hasFreePlace_25 : decode cX1_hasFreePlace 25 = .ok (.ifCond .eq 5, 3) := by decide +kernel
theorem dX1_hasFreePlace_28 : decode cX1_hasFreePlace 28 = .ok (.iconst 1, 1) := by decide +kernel
theorem dX1_hasFreePlace_29 : decode cX1_hasFreePlace 29 = .ok (.ireturn, 1) := by decide +kernel
theorem dX1_hasFreePlace_30 : decode cX1_hasFreePlace 30 = .ok (.iinc 4 1, 3) := by decide +kernel
theorem dX1_hasFreePlace_33 : decode cX1_hasFreePlace 33 = .ok (.goto (-20), 3) := by decide +kernel
theorem dX1_hasFreePlace_36 : decode cX1_hasFreePlace 36 = .ok (.iconst 0, 1) := by decide +kernel
theorem dX1_hasFreePlace_37 : decode cX1_hasFreePlace 37 = .ok (.ireturn, 1) := by decide +kernel
set_option maxRecDepth 20000 in
theorem ggX1_put_X3_weekdayOf : GoodIn wsX1_put wsX3_weekdayOf := goodIn_r _ [8] (by decide +kernel) (by decide +kernel)
set_option maxRecDepth 20000 in
theorem gX1_put_X3_weekdayOf_n74 : GoodIn wsX1_put (wsX3_weekdayOf) := ggX1_put_X3_weekdayOf
theorem dX1_put_0 : decode cX1_put 0 = .ok (.aload_n 0, 1) := by decide +kernel
theorem dX1_put_1 : decode cX1_put 1 = .ok (.getfield 15, 3) := by decide +kernel
theorem dX1_put_4 : decode cX1_put 4 = .ok (.iload_n 1, 1) := by decide +kernel
theorem dX1_put_5 : decode cX1_put 5 = .ok (.aload_n 0, 1) := by decide +kernel
theorem dX1_put_6 : decode cX1_put 6 = .ok (.getfield 57, 3) := by decide +kernel
theorem dX1_put_9 : decode cX1_put 9 = .ok (.invokestatic 74, 3) := by decide +kernel
theorem dX1_put_12 : decode cX1_put 12 = .ok (.iastore, 1) := by decide +kernel
theorem dX1_put_13 : decode cX1_put 13 = .ok (.aload_n 0, 1) := by decide +kernel
theorem dX1_put_14 : decode cX1_put 14 = .ok (.getfield 18, 3) := by decide +kernel
theorem dX1_put_17 : decode cX1_put 17 = .ok (.iload_n 1, 1) := by decide +kernel
theorem dX1_put_18 : decode cX1_put 18 = .ok (.iload_n 2, 1) := by decide +kernel
theorem dX1_put_19 : decode cX1_put 19 = .ok (.iastore, 1) := by decide +kernel
theorem dX1_put_20 : decode cX1_put 20 = .ok (.aload_n 0, 1) := by decide +kernel
theorem dX1_put_21 : decode cX1_put 21 = .ok (.getfield 21, 3) := by decide +kernel
theorem dX1_put_24 : decode cX1_put 24 = .ok (.iload_n 1, 1) := by decide +kernel
theorem dX1_put_25 : decode cX1_put 25 = .ok (.iload_n 3, 1) := by decide +kernel
theorem dX1_put_26 : decode cX1_put 26 = .ok (.iastore, 1) := by decide +kernel
theorem dX1_put_27 : decode cX1_put 27 = .ok (.aload_n 0, 1) := by decide +kernel
theorem dX1_put_28 : decode cX1_put 28 = .ok (.getfield 24, 3) := by decide +kernel
theorem dX1_put_31 : decode cX1_put 31 = .ok (.iload_n 1, 1) := by decide +kernel
theorem dX1_put_32 : decode cX1_put 32 = .ok (.iload 4, 2) := by decide +kernel
theorem dX1_put_34 : decode cX1_put 34 = .ok (.iastore, 1) := by decide +kernel
theorem dX1_put_35 : decode cX1_put 35 = .ok (.return_, 1) := by decide +kernel
set_option maxRecDepth 20000 in
theorem ggX1_leave_X3_indexFor : GoodIn wsX1_leave wsX3_indexFor := goodIn_r _ [6] (by decide +kernel) (by decide +kernel)
set_option maxRecDepth 20000 in
theorem gX1_leave_X3_indexFor_n78 : GoodIn wsX1_leave (wsX3_indexFor) := ggX1_leave_X3_indexFor
theorem dX1_leave_0 : decode cX1_leave 0 = .ok (.aload_n 0, 1) := by decide +kernel
theorem dX1_leave_1 : decode cX1_leave 1 = .ok (.getfield 15, 3) := by decide +kernel
theorem dX1_leave_4 : decode cX1_leave 4 = .ok (.iload_n 1, 1) := by decide +kernel
theorem dX1_leave_5 : decode cX1_leave 5 = .ok (.iaload, 1) := by decide +kernel
theorem dX1_leave_6 : decode cX1_leave 6 = .ok (.ifCond .eq 29, 3) := by decide +kernel
theorem dX1_leave_9 : decode cX1_leave 9 = .ok (.aload_n 0, 1) := by decide +kernel
theorem dX1_leave_10 : decode cX1_leave 10 = .ok (.getfield 27, 3) := by decide +kernel
theorem dX1_leave_13 : decode cX1_leave 13 = .ok (.aload_n 0, 1) := by decide +kernel
theorem dX1_leave_14 : decode cX1_leave 14 = .ok (.getfield 15, 3) := by decide +kernel
theorem dX1_leave_17 : decode cX1_leave 17 = .ok (.iload_n 1, 1) := by decide +kernel
theorem dX1_leave_18 : decode cX1_leave 18 = .ok (.iaload, 1) := by decide +kernel
theorem dX1_leave_19 : decode cX1_leave 19 = .ok (.iload_n 1, 1) := by decide +kernel
theorem dX1_leave_20 : decode cX1_leave 20 = .ok (.invokestatic 78, 3) := by decide +kernel
theorem dX1_leave_23 : decode cX1_leave 23 = .ok (.aload_n 0, 1) := by decide +kernel
theorem dX1_leave_24 : decode cX1_leave 24 = .ok (.getfield 57, 3) := by decide +kernel
theorem dX1_leave_27 : decode cX1_leave 27 = .ok (.iastore, 1) := by decide +kernel
theorem dX1_leave_28 : decode cX1_leave 28 = .ok (.aload_n 0, 1) := by decide +kernel
theorem dX1_leave_29 : decode cX1_leave 29 = .ok (.getfield 15, 3) := by decide +kernel
theorem dX1_leave_32 : decode cX1_leave 32 = .ok (.iload_n 1, 1) := by decide +kernel
theorem dX1_leave_33 : decode cX1_leave 33 = .ok (.iconst 0, 1) := by decide +kernel
theorem dX1_leave_34 : decode cX1_leave 34 = .ok (.iastore, 1) := by decide +kernel
theorem dX1_leave_35 : decode cX1_leave 35 = .ok (.return_, 1) := by decide +kernel
theorem dX1_feeAfter_0 : decode cX1_feeAfter 0 = .ok (.aload_n 0, 1) := by decide +kernel
theorem dX1_feeAfter_1 : decode cX1_feeAfter 1 = .ok (.getfield 57, 3) := by decide +kernel
theorem dX1_feeAfter_4 : decode cX1_feeAfter 4 = .ok (.iload_n 2, 1) := by decide +kernel
theorem dX1_feeAfter_5 : decode cX1_feeAfter 5 = .ok (.iadd, 1) := by decide +kernel
theorem dX1_feeAfter_6 : decode cX1_feeAfter 6 = .ok (.aload_n 0, 1) := by decide +kernel
theorem dX1_feeAfter_7 : decode cX1_feeAfter 7 = .ok (.getfield 24, 3) := by decide +kernel
theorem dX1_feeAfter_10 : decode cX1_feeAfter 10 = .ok (.iload_n 1, 1) := by decide +kernel
theorem dX1_feeAfter_11 : decode cX1_feeAfter 11 = .ok (.iaload, 1) := by decide +kernel
theorem dX1_feeAfter_12 : decode cX1_feeAfter 12 = .ok (.isub, 1) := by decide +kernel
theorem dX1_feeAfter_13 : decode cX1_feeAfter 13 = .ok (.istore_n 3, 1) := by decide +kernel
theorem dX1_feeAfter_14 : decode cX1_feeAfter 14 = .ok (.iconst 0, 1) := by decide +kernel
theorem dX1_feeAfter_15 : decode cX1_feeAfter 15 = .ok (.iload_n 3, 1) := by decide +kernel
theorem dX1_feeAfter_16 : decode cX1_feeAfter 16 = .ok (.aload_n 0, 1) := by decide +kernel
theorem dX1_feeAfter_17 : decode cX1_feeAfter 17 = .ok (.getfield 9, 3) := by decide +kernel
theorem dX1_feeAfter_20 : decode cX1_feeAfter 20 = .ok (.iconst 1, 1) := by decide +kernel
theorem dX1_feeAfter_21 : decode cX1_feeAfter 21 = .ok (.iaload, 1) := by decide +kernel
theorem dX1_feeAfter_22 : decode cX1_feeAfter 22 = .ok (.isub, 1) := by decide +kernel
theorem dX1_feeAfter_23 : decode cX1_feeAfter 23 = .ok (.invokestatic 94, 3) := by decide +kernel
theorem dX1_feeAfter_26 : decode cX1_feeAfter 26 = .ok (.istore 4, 2) := by decide +kernel
theorem dX1_feeAfter_28 : decode cX1_feeAfter 28 = .ok (.aload_n 0, 1) := by decide +kernel
theorem dX1_feeAfter_29 : decode cX1_feeAfter 29 = .ok (.getfield 21, 3) := by decide +kernel
theorem dX1_feeAfter_32 : decode cX1_feeAfter 32 = .ok (.iload_n 1, 1) := by decide +kernel
theorem dX1_feeAfter_33 : decode cX1_feeAfter 33 = .ok (.iaload, 1) := by decide +kernel
theorem dX1_feeAfter_34 : decode cX1_feeAfter 34 = .ok (.iconst 1, 1) := by decide +kernel
theorem dX1_feeAfter_35 : decode cX1_feeAfter 35 = .ok (.iadd, 1) := by decide +kernel
theorem dX1_feeAfter_36 : decode cX1_feeAfter 36 = .ok (.aload_n 0, 1) := by decide +kernel
theorem dX1_feeAfter_37 : decode cX1_feeAfter 37 = .ok (.getfield 9, 3) := by decide +kernel
theorem dX1_feeAfter_40 : decode cX1_feeAfter 40 = .ok (.iconst 2, 1) := by decide +kernel
theorem dX1_feeAfter_41 : decode cX1_feeAfter 41 = .ok (.iaload, 1) := by decide +kernel
theorem dX1_feeAfter_42 : decode cX1_feeAfter 42 = .ok (.imul, 1) := by decide +kernel
theorem dX1_feeAfter_43 : decode cX1_feeAfter 43 = .ok (.iload 4, 2) := by decide +kernel
theorem dX1_feeAfter_45 : decode cX1_feeAfter 45 = .ok (.imul, 1) := by decide +kernel
theorem dX1_feeAfter_46 : decode cX1_feeAfter 46 = .ok (.ireturn, 1) := by decide +kernel
set_option maxRecDepth 20000 in
theorem ggX1_beginDay_X1_letCourierCome : GoodIn wsX1_beginDay wsX1_letCourierCome := goodIn_r _ [7, 8, 9, 10, 11, 12, 6, 13, 14, 15, 35, 36, 37, 38, 39, 40, 41, 42, 43, 44, 45, 46, 47, 48] (by decide +kernel) (by decide +kernel)
set_option maxRecDepth 20000 in
theorem gX1_beginDay_X1_letCourierCome : GoodIn wsX1_beginDay (wsV RX1 99 RX1 yX1_letCourierCome wsX1_letCourierCome) := goodIn_app (goodIn_of _ (by decide +kernel)) ggX1_beginDay_X1_letCourierCome
set_option maxRecDepth 20000 in
theorem ggX1_beginDay_X1_returnParcelsKeptTooLong : GoodIn wsX1_beginDay wsX1_returnParcelsKeptTooLong := goodIn_r _ [19, 8, 20, 21, 22, 23, 6, 24, 25, 1, 26, 9, 27, 28, 29, 30, 31, 32, 33, 34, 35, 36, 37, 38, 39, 40, 41, 42, 43, 44, 45, 46, 47, 48] (by decide +kernel) (by decide +kernel)
set_option maxRecDepth 20000 in
theorem gX1_beginDay_X1_returnParcelsKeptTooLong : GoodIn wsX1_beginDay (wsV RX1 102 RX1 yX1_returnParcelsKeptTooLong wsX1_returnParcelsKeptTooLong) := goodIn_app (goodIn_of _ (by decide +kernel)) ggX1_beginDay_X1_returnParcelsKeptTooLong
theorem dX1_beginDay_0 : decode cX1_beginDay 0 = .ok (.aload_n 0, 1) := by decide +kernel
theorem dX1_beginDay_1 : decode cX1_beginDay 1 = .ok (.dup, 1) := by decide +kernel
theorem dX1_beginDay_2 : decode cX1_beginDay 2 = .ok (.getfield 57, 3) := by decide +kernel
theorem dX1_beginDay_5 : decode cX1_beginDay 5 = .ok (.iconst 1, 1) := by decide +kernel
theorem dX1_beginDay_6 : decode cX1_beginDay 6 = .ok (.iadd, 1) := by decide +kernel
theorem dX1_beginDay_7 : decode cX1_beginDay 7 = .ok (.putfield 57, 3) := by decide +kernel
theorem dX1_beginDay_10 : decode cX1_beginDay 10 = .ok (.aload_n 0, 1) := by decide +kernel
theorem dX1_beginDay_11 : decode cX1_beginDay 11 = .ok (.iconst 0, 1) := by decide +kernel
theorem dX1_beginDay_12 : decode cX1_beginDay 12 = .ok (.putfield 61, 3) := by decide +kernel
theorem dX1_beginDay_15 : decode cX1_beginDay 15 = .ok (.aload_n 0, 1) := by decide +kernel
theorem dX1_beginDay_16 : decode cX1_beginDay 16 = .ok (.getfield 57, 3) := by decide +kernel
theorem dX1_beginDay_19 : decode cX1_beginDay 19 = .ok (.iconst 3, 1) := by decide +kernel
theorem dX1_beginDay_20 : decode cX1_beginDay 20 = .ok (.irem, 1) := by decide +kernel
theorem dX1_beginDay_21 : decode cX1_beginDay 21 = .ok (.ifCond .ne 7, 3) := by decide +kernel
theorem dX1_beginDay_24 : decode cX1_beginDay 24 = .ok (.aload_n 0, 1) := by decide +kernel
theorem dX1_beginDay_25 : decode cX1_beginDay 25 = .ok (.invokevirtual 99, 3) := by decide +kernel
theorem dX1_beginDay_28 : decode cX1_beginDay 28 = .ok (.aload_n 0, 1) := by decide +kernel
theorem dX1_beginDay_29 : decode cX1_beginDay 29 = .ok (.invokevirtual 102, 3) := by decide +kernel
theorem dX1_beginDay_32 : decode cX1_beginDay 32 = .ok (.ireturn, 1) := by decide +kernel
set_option maxRecDepth 20000 in
theorem ggX1_letCourierCome_X1_emptyBin : GoodIn wsX1_letCourierCome wsX1_emptyBin := goodIn_r _ [7, 2, 1, 8, 9, 10, 11, 12, 13, 14, 15, 16, 17, 18, 19, 20, 21, 22, 23] (by decide +kernel) (by decide +kernel)
set_option maxRecDepth 20000 in
theorem gX1_letCourierCome_X1_emptyBin : GoodIn wsX1_letCourierCome (wsV RX1 106 RX1 yX1_emptyBin wsX1_emptyBin) := goodIn_app (goodIn_of _ (by decide +kernel)) ggX1_letCourierCome_X1_emptyBin
theorem dX1_letCourierCome_0 : decode cX1_letCourierCome 0 = .ok (.iconst 0, 1) := by decide +kernel
theorem dX1_letCourierCome_1 : decode cX1_letCourierCome 1 = .ok (.istore_n 1, 1) := by decide +kernel
theorem dX1_letCourierCome_2 : decode cX1_letCourierCome 2 = .ok (.iload_n 1, 1) := by decide +kernel
theorem dX1_letCourierCome_3 : decode cX1_letCourierCome 3 = .ok (.bipush 10, 2) := by decide +kernel
theorem dX1_letCourierCome_5 : decode cX1_letCourierCome 5 = .ok (.if_icmp .ge 31, 3) := by decide +kernel
theorem dX1_letCourierCome_8 : decode cX1_letCourierCome 8 = .ok (.aload_n 0, 1) := by decide +kernel
theorem dX1_letCourierCome_9 : decode cX1_letCourierCome 9 = .ok (.getfield 30, 3) := by decide +kernel
theorem dX1_letCourierCome_12 : decode cX1_letCourierCome 12 = .ok (.iload_n 1, 1) := by decide +kernel
theorem dX1_letCourierCome_13 : decode cX1_letCourierCome 13 = .ok (.iaload, 1) := by decide +kernel
theorem dX1_letCourierCome_14 : decode cX1_letCourierCome 14 = .ok (.aload_n 0, 1) := by decide +kernel
theorem dX1_letCourierCome_15 : decode cX1_letCourierCome 15 = .ok (.getfield 9, 3) := by decide +kernel
theorem dX1_letCourierCome_18 : decode cX1_letCourierCome 18 = .ok (.iconst 4, 1) := by decide +kernel
theorem dX1_letCourierCome_19 : decode cX1_letCourierCome 19 = .ok (.iaload, 1) := by decide +kernel
theorem dX1_letCourierCome_20 : decode cX1_letCourierCome 20 = .ok (.if_icmp .lt 10, 3) := by decide +kernel
theorem dX1_letCourierCome_23 : decode cX1_letCourierCome 23 = .ok (.aload_n 0, 1) := by decide +kernel
theorem dX1_letCourierCome_24 : decode cX1_letCourierCome 24 = .ok (.iload_n 1, 1) := by decide +kernel
theorem dX1_letCourierCome_25 : decode cX1_letCourierCome 25 = .ok (.iconst 4, 1) := by decide +kernel
theorem dX1_letCourierCome_26 : decode cX1_letCourierCome 26 = .ok (.invokevirtual 106, 3) := by decide +kernel
theorem dX1_letCourierCome_29 : decode cX1_letCourierCome 29 = .ok (.pop, 1) := by decide +kernel
theorem dX1_letCourierCome_30 : decode cX1_letCourierCome 30 = .ok (.iinc 1 1, 3) := by decide +kernel
theorem dX1_letCourierCome_33 : decode cX1_letCourierCome 33 = .ok (.goto (-31), 3) := by decide +kernel
theorem dX1_letCourierCome_36 : decode cX1_letCourierCome 36 = .ok (.return_, 1) := by decide +kernel
theorem dX1_emptyBin_0 : decode cX1_emptyBin 0 = .ok (.iload_n 2, 1) := by decide +kernel
theorem dX1_emptyBin_1 : decode cX1_emptyBin 1 = .ok (.aload_n 0, 1) := by decide +kernel
theorem dX1_emptyBin_2 : decode cX1_emptyBin 2 = .ok (.getfield 9, 3) := by decide +kernel
theorem dX1_emptyBin_5 : decode cX1_emptyBin 5 = .ok (.iconst 2, 1) := by decide +kernel
theorem dX1_emptyBin_6 : decode cX1_emptyBin 6 = .ok (.iaload, 1) := by decide +kernel
theorem dX1_emptyBin_7 : decode cX1_emptyBin 7 = .ok (.imul, 1) := by decide +kernel
theorem dX1_emptyBin_8 : decode cX1_emptyBin 8 = .ok (.aload_n 0, 1) := by decide +kernel
theorem dX1_emptyBin_9 : decode cX1_emptyBin 9 = .ok (.getfield 30, 3) := by decide +kernel
theorem dX1_emptyBin_12 : decode cX1_emptyBin 12 = .ok (.iload_n 1, 1) := by decide +kernel
theorem dX1_emptyBin_13 : decode cX1_emptyBin 13 = .ok (.iaload, 1) := by decide +kernel
theorem dX1_emptyBin_14 : decode cX1_emptyBin 14 = .ok (.imul, 1) := by decide +kernel
theorem dX1_emptyBin_15 : decode cX1_emptyBin 15 = .ok (.istore_n 3, 1) := by decide +kernel
theorem dX1_emptyBin_16 : decode cX1_emptyBin 16 = .ok (.aload_n 0, 1) := by decide +kernel
theorem dX1_emptyBin_17 : decode cX1_emptyBin 17 = .ok (.getfield 33, 3) := by decide +kernel
theorem dX1_emptyBin_20 : decode cX1_emptyBin 20 = .ok (.iload_n 1, 1) := by decide +kernel
theorem dX1_emptyBin_21 : decode cX1_emptyBin 21 = .ok (.dup2, 1) := by decide +kernel
theorem dX1_emptyBin_22 : decode cX1_emptyBin 22 = .ok (.iaload, 1) := by decide +kernel
theorem dX1_emptyBin_23 : decode cX1_emptyBin 23 = .ok (.iload_n 3, 1) := by decide +kernel
theorem dX1_emptyBin_24 : decode cX1_emptyBin 24 = .ok (.iadd, 1) := by decide +kernel
theorem dX1_emptyBin_25 : decode cX1_emptyBin 25 = .ok (.iastore, 1) := by decide +kernel
theorem dX1_emptyBin_26 : decode cX1_emptyBin 26 = .ok (.aload_n 0, 1) := by decide +kernel
theorem dX1_emptyBin_27 : decode cX1_emptyBin 27 = .ok (.getfield 39, 3) := by decide +kernel
theorem dX1_emptyBin_30 : decode cX1_emptyBin 30 = .ok (.iload_n 1, 1) := by decide +kernel
theorem dX1_emptyBin_31 : decode cX1_emptyBin 31 = .ok (.dup2, 1) := by decide +kernel
theorem dX1_emptyBin_32 : decode cX1_emptyBin 32 = .ok (.iaload, 1) := by decide +kernel
theorem dX1_emptyBin_33 : decode cX1_emptyBin 33 = .ok (.aload_n 0, 1) := by decide +kernel
theorem dX1_emptyBin_34 : decode cX1_emptyBin 34 = .ok (.getfield 30, 3) := by decide +kernel
theorem dX1_emptyBin_37 : decode cX1_emptyBin 37 = .ok (.iload_n 1, 1) := by decide +kernel
theorem dX1_emptyBin_38 : decode cX1_emptyBin 38 = .ok (.iaload, 1) := by decide +kernel
theorem dX1_emptyBin_39 : decode cX1_emptyBin 39 = .ok (.iadd, 1) := by decide +kernel
theorem dX1_emptyBin_40 : decode cX1_emptyBin 40 = .ok (.iastore, 1) := by decide +kernel
theorem dX1_emptyBin_41 : decode cX1_emptyBin 41 = .ok (.aload_n 0, 1) := by decide +kernel
theorem dX1_emptyBin_42 : decode cX1_emptyBin 42 = .ok (.getfield 30, 3) := by decide +kernel
theorem dX1_emptyBin_45 : decode cX1_emptyBin 45 = .ok (.iload_n 1, 1) := by decide +kernel
theorem dX1_emptyBin_46 : decode cX1_emptyBin 46 = .ok (.iconst 0, 1) := by decide +kernel
theorem dX1_emptyBin_47 : decode cX1_emptyBin 47 = .ok (.iastore, 1) := by decide +kernel
theorem dX1_emptyBin_48 : decode cX1_emptyBin 48 = .ok (.iload_n 3, 1) := by decide +kernel
theorem dX1_emptyBin_49 : decode cX1_emptyBin 49 = .ok (.ireturn, 1) := by decide +kernel
set_option maxRecDepth 20000 in
theorem ggX1_returnParcelsKeptTooLong_X1_isKeptTooLong : GoodIn wsX1_returnParcelsKeptTooLong wsX1_isKeptTooLong := goodIn_r _ [7, 8, 9, 10, 11, 20, 21, 22, 23, 24, 25, 26, 27, 28, 29, 30, 31, 32, 33] (by decide +kernel) (by decide +kernel)
set_option maxRecDepth 20000 in
theorem gX1_returnParcelsKeptTooLong_X1_isKeptTooLong : GoodIn wsX1_returnParcelsKeptTooLong (wsV RX1 109 RX1 yX1_isKeptTooLong wsX1_isKeptTooLong) := goodIn_app (goodIn_of _ (by decide +kernel)) ggX1_returnParcelsKeptTooLong_X1_isKeptTooLong
set_option maxRecDepth 20000 in
theorem ggX1_returnParcelsKeptTooLong_X1_leave : GoodIn wsX1_returnParcelsKeptTooLong wsX1_leave := goodIn_r _ [15, 8, 16, 9, 17, 18, 19, 20, 21, 22, 23, 24, 25, 26, 27, 28, 29, 30, 31, 32, 33] (by decide +kernel) (by decide +kernel)
set_option maxRecDepth 20000 in
theorem gX1_returnParcelsKeptTooLong_X1_leave : GoodIn wsX1_returnParcelsKeptTooLong (wsV RX1 112 RX1 yX1_leave wsX1_leave) := goodIn_app (goodIn_of _ (by decide +kernel)) ggX1_returnParcelsKeptTooLong_X1_leave
theorem dX1_returnParcelsKeptTooLong_0 : decode cX1_returnParcelsKeptTooLong 0 = .ok (.iconst 0, 1) := by decide +kernel
theorem dX1_returnParcelsKeptTooLong_1 : decode cX1_returnParcelsKeptTooLong 1 = .ok (.istore_n 1, 1) := by decide +kernel
theorem dX1_returnParcelsKeptTooLong_2 : decode cX1_returnParcelsKeptTooLong 2 = .ok (.iconst 0, 1) := by decide +kernel
theorem dX1_returnParcelsKeptTooLong_3 : decode cX1_returnParcelsKeptTooLong 3 = .ok (.istore_n 2, 1) := by decide +kernel
theorem dX1_returnParcelsKeptTooLong_4 : decode cX1_returnParcelsKeptTooLong 4 = .ok (.iload_n 2, 1) := by decide +kernel
theorem dX1_returnParcelsKeptTooLong_5 : decode cX1_returnParcelsKeptTooLong 5 = .ok (.bipush 48, 2) := by decide +kernel
theorem dX1_returnParcelsKeptTooLong_7 : decode cX1_returnParcelsKeptTooLong 7 = .ok (.if_icmp .ge 56, 3) := by decide +kernel
theorem dX1_returnParcelsKeptTooLong_10 : decode cX1_returnParcelsKeptTooLong 10 = .ok (.aload_n 0, 1) := by decide +kernel
theorem dX1_returnParcelsKeptTooLong_11 : decode cX1_returnParcelsKeptTooLong 11 = .ok (.iload_n 2, 1) := by decide +kernel
theorem dX1_returnParcelsKeptTooLong_12 : decode cX1_returnParcelsKeptTooLong 12 = .ok (.invokevirtual 109, 3) := by decide +kernel
theorem dX1_returnParcelsKeptTooLong_15 : decode cX1_returnParcelsKeptTooLong 15 = .ok (.ifCond .eq 42, 3) := by decide +kernel
theorem dX1_returnParcelsKeptTooLong_18 : decode cX1_returnParcelsKeptTooLong 18 = .ok (.aload_n 0, 1) := by decide +kernel
theorem dX1_returnParcelsKeptTooLong_19 : decode cX1_returnParcelsKeptTooLong 19 = .ok (.getfield 30, 3) := by decide +kernel
theorem dX1_returnParcelsKeptTooLong_22 : decode cX1_returnParcelsKeptTooLong 22 = .ok (.aload_n 0, 1) := by decide +kernel
theorem dX1_returnParcelsKeptTooLong_23 : decode cX1_returnParcelsKeptTooLong 23 = .ok (.getfield 18, 3) := by decide +kernel
theorem dX1_returnParcelsKeptTooLong_26 : decode cX1_returnParcelsKeptTooLong 26 = .ok (.iload_n 2, 1) := by decide +kernel
theorem dX1_returnParcelsKeptTooLong_27 : decode cX1_returnParcelsKeptTooLong 27 = .ok (.iaload, 1) := by decide +kernel
theorem dX1_returnParcelsKeptTooLong_28 : decode cX1_returnParcelsKeptTooLong 28 = .ok (.iaload, 1) := by decide +kernel
theorem dX1_returnParcelsKeptTooLong_29 : decode cX1_returnParcelsKeptTooLong 29 = .ok (.bipush 9, 2) := by decide +kernel
theorem dX1_returnParcelsKeptTooLong_31 : decode cX1_returnParcelsKeptTooLong 31 = .ok (.if_icmp .ge 26, 3) := by decide +kernel
theorem dX1_returnParcelsKeptTooLong_34 : decode cX1_returnParcelsKeptTooLong 34 = .ok (.aload_n 0, 1) := by decide +kernel
theorem dX1_returnParcelsKeptTooLong_35 : decode cX1_returnParcelsKeptTooLong 35 = .ok (.getfield 30, 3) := by decide +kernel
theorem dX1_returnParcelsKeptTooLong_38 : decode cX1_returnParcelsKeptTooLong 38 = .ok (.aload_n 0, 1) := by decide +kernel
theorem dX1_returnParcelsKeptTooLong_39 : decode cX1_returnParcelsKeptTooLong 39 = .ok (.getfield 18, 3) := by decide +kernel
theorem dX1_returnParcelsKeptTooLong_42 : decode cX1_returnParcelsKeptTooLong 42 = .ok (.iload_n 2, 1) := by decide +kernel
theorem dX1_returnParcelsKeptTooLong_43 : decode cX1_returnParcelsKeptTooLong 43 = .ok (.iaload, 1) := by decide +kernel
theorem dX1_returnParcelsKeptTooLong_44 : decode cX1_returnParcelsKeptTooLong 44 = .ok (.dup2, 1) := by decide +kernel
theorem dX1_returnParcelsKeptTooLong_45 : decode cX1_returnParcelsKeptTooLong 45 = .ok (.iaload, 1) := by decide +kernel
theorem dX1_returnParcelsKeptTooLong_46 : decode cX1_returnParcelsKeptTooLong 46 = .ok (.iconst 1, 1) := by decide +kernel
theorem dX1_returnParcelsKeptTooLong_47 : decode cX1_returnParcelsKeptTooLong 47 = .ok (.iadd, 1) := by decide +kernel
theorem dX1_returnParcelsKeptTooLong_48 : decode cX1_returnParcelsKeptTooLong 48 = .ok (.iastore, 1) := by decide +kernel
theorem dX1_returnParcelsKeptTooLong_49 : decode cX1_returnParcelsKeptTooLong 49 = .ok (.aload_n 0, 1) := by decide +kernel
theorem dX1_returnParcelsKeptTooLong_50 : decode cX1_returnParcelsKeptTooLong 50 = .ok (.iload_n 2, 1) := by decide +kernel
theorem dX1_returnParcelsKeptTooLong_51 : decode cX1_returnParcelsKeptTooLong 51 = .ok (.invokevirtual 112, 3) := by decide +kernel
theorem dX1_returnParcelsKeptTooLong_54 : decode cX1_returnParcelsKeptTooLong 54 = .ok (.iinc 1 1, 3) := by decide +kernel
theorem dX1_returnParcelsKeptTooLong_57 : decode cX1_returnParcelsKeptTooLong 57 = .ok (.iinc 2 1, 3) := by decide +kernel
theorem dX1_returnParcelsKeptTooLong_60 : decode cX1_returnParcelsKeptTooLong 60 = .ok (.goto (-56), 3) := by decide +kernel
theorem dX1_returnParcelsKeptTooLong_63 : decode cX1_returnParcelsKeptTooLong 63 = .ok (.iload_n 1, 1) := by decide +kernel
theorem dX1_returnParcelsKeptTooLong_64 : decode cX1_returnParcelsKeptTooLong 64 = .ok (.ireturn, 1) := by decide +kernel
theorem dX1_isKeptTooLong_0 : decode cX1_isKeptTooLong 0 = .ok (.aload_n 0, 1) := by decide +kernel
theorem dX1_isKeptTooLong_1 : decode cX1_isKeptTooLong 1 = .ok (.getfield 15, 3) := by decide +kernel
theorem dX1_isKeptTooLong_4 : decode cX1_isKeptTooLong 4 = .ok (.iload_n 1, 1) := by decide +kernel
theorem dX1_isKeptTooLong_5 : decode cX1_isKeptTooLong 5 = .ok (.iaload, 1) := by decide +kernel
theorem dX1_isKeptTooLong_6 : decode cX1_isKeptTooLong 6 = .ok (.ifCond .eq 27, 3) := by decide +kernel
theorem dX1_isKeptTooLong_9 : decode cX1_isKeptTooLong 9 = .ok (.aload_n 0, 1) := by decide +kernel
theorem dX1_isKeptTooLong_10 : decode cX1_isKeptTooLong 10 = .ok (.getfield 57, 3) := by decide +kernel
theorem dX1_isKeptTooLong_13 : decode cX1_isKeptTooLong 13 = .ok (.aload_n 0, 1) := by decide +kernel
theorem dX1_isKeptTooLong_14 : decode cX1_isKeptTooLong 14 = .ok (.getfield 24, 3) := by decide +kernel
theorem dX1_isKeptTooLong_17 : decode cX1_isKeptTooLong 17 = .ok (.iload_n 1, 1) := by decide +kernel
theorem dX1_isKeptTooLong_18 : decode cX1_isKeptTooLong 18 = .ok (.iaload, 1) := by decide +kernel
theorem dX1_isKeptTooLong_19 : decode cX1_isKeptTooLong 19 = .ok (.isub, 1) := by decide +kernel
theorem dX1_isKeptTooLong_20 : decode cX1_isKeptTooLong 20 = .ok (.aload_n 0, 1) := by decide +kernel
theorem dX1_isKeptTooLong_21 : decode cX1_isKeptTooLong 21 = .ok (.getfield 9, 3) := by decide +kernel
theorem dX1_isKeptTooLong_24 : decode cX1_isKeptTooLong 24 = .ok (.iconst 3, 1) := by decide +kernel
theorem dX1_isKeptTooLong_25 : decode cX1_isKeptTooLong 25 = .ok (.iaload, 1) := by decide +kernel
theorem dX1_isKeptTooLong_26 : decode cX1_isKeptTooLong 26 = .ok (.if_icmp .le 7, 3) := by decide +kernel
theorem dX1_isKeptTooLong_29 : decode cX1_isKeptTooLong 29 = .ok (.iconst 1, 1) := by decide +kernel
theorem dX1_isKeptTooLong_30 : decode cX1_isKeptTooLong 30 = .ok (.goto 4, 3) := by decide +kernel
theorem dX1_isKeptTooLong_33 : decode cX1_isKeptTooLong 33 = .ok (.iconst 0, 1) := by decide +kernel
theorem dX1_isKeptTooLong_34 : decode cX1_isKeptTooLong 34 = .ok (.ireturn, 1) := by decide +kernel
set_option maxRecDepth 20000 in
theorem ggX1_parcelsOnShelves_X1_parcelsOnShelf : GoodIn wsX1_parcelsOnShelves wsX1_parcelsOnShelf := goodIn_r _ [5, 6, 7, 8, 4, 9, 10, 11, 12, 13, 14, 15, 16, 17, 18, 19, 20, 21, 22, 23, 24] (by decide +kernel) (by decide +kernel)
set_option maxRecDepth 20000 in
theorem gX1_parcelsOnShelves_X1_parcelsOnShelf : GoodIn wsX1_parcelsOnShelves (wsV RX1 116 RX1 yX1_parcelsOnShelf wsX1_parcelsOnShelf) := goodIn_app (goodIn_of _ (by decide +kernel)) ggX1_parcelsOnShelves_X1_parcelsOnShelf
theorem dX1_parcelsOnShelves_0 : decode cX1_parcelsOnShelves 0 = .ok (.iconst 0, 1) := by decide +kernel
theorem dX1_parcelsOnShelves_1 : decode cX1_parcelsOnShelves 1 = .ok (.istore_n 1, 1) := by decide +kernel
theorem dX1_parcelsOnShelves_2 : decode cX1_parcelsOnShelves 2 = .ok (.iconst 0, 1) := by decide +kernel
theorem dX1_parcelsOnShelves_3 : decode cX1_parcelsOnShelves 3 = .ok (.istore_n 2, 1) := by decide +kernel
theorem dX1_parcelsOnShelves_4 : decode cX1_parcelsOnShelves 4 = .ok (.iload_n 2, 1) := by decide +kernel
theorem dX1_parcelsOnShelves_5 : decode cX1_parcelsOnShelves 5 = .ok (.bipush 6, 2) := by decide +kernel
theorem dX1_parcelsOnShelves_7 : decode cX1_parcelsOnShelves 7 = .ok (.if_icmp .ge 17, 3) := by decide +kernel
theorem dX1_parcelsOnShelves_10 : decode cX1_parcelsOnShelves 10 = .ok (.iload_n 1, 1) := by decide +kernel
theorem dX1_parcelsOnShelves_11 : decode cX1_parcelsOnShelves 11 = .ok (.aload_n 0, 1) := by decide +kernel
theorem dX1_parcelsOnShelves_12 : decode cX1_parcelsOnShelves 12 = .ok (.iload_n 2, 1) := by decide +kernel
theorem dX1_parcelsOnShelves_13 : decode cX1_parcelsOnShelves 13 = .ok (.invokevirtual 116, 3) := by decide +kernel
theorem dX1_parcelsOnShelves_16 : decode cX1_parcelsOnShelves 16 = .ok (.iadd, 1) := by decide +kernel
theorem dX1_parcelsOnShelves_17 : decode cX1_parcelsOnShelves 17 = .ok (.istore_n 1, 1) := by decide +kernel
theorem dX1_parcelsOnShelves_18 : decode cX1_parcelsOnShelves 18 = .ok (.iinc 2 1, 3) := by decide +kernel
theorem dX1_parcelsOnShelves_21 : decode cX1_parcelsOnShelves 21 = .ok (.goto (-17), 3) := by decide +kernel
theorem dX1_parcelsOnShelves_24 : decode cX1_parcelsOnShelves 24 = .ok (.iload_n 1, 1) := by decide +kernel
theorem dX1_parcelsOnShelves_25 : decode cX1_parcelsOnShelves 25 = .ok (.ireturn, 1) := by decide +kernel
set_option maxRecDepth 20000 in
theorem ggX1_parcelsOnShelf_X1_isFree : GoodIn wsX1_parcelsOnShelf wsX1_isFree := goodIn_r _ [5, 6, 7, 8, 9, 10, 11, 12, 13, 14, 15, 16, 17, 18, 19, 20] (by decide +kernel) (by decide +kernel)
set_option maxRecDepth 20000 in
theorem gX1_parcelsOnShelf_X1_isFree : GoodIn wsX1_parcelsOnShelf (wsV RX1 88 RX1 yX1_isFree wsX1_isFree) := goodIn_app (goodIn_of _ (by decide +kernel)) ggX1_parcelsOnShelf_X1_isFree
theorem dX1_parcelsOnShelf_0 : decode cX1_parcelsOnShelf 0 = .ok (.iconst 0, 1) := by decide +kernel
theorem dX1_parcelsOnShelf_1 : decode cX1_parcelsOnShelf 1 = .ok (.istore_n 2, 1) := by decide +kernel
theorem dX1_parcelsOnShelf_2 : decode cX1_parcelsOnShelf 2 = .ok (.iconst 0, 1) := by decide +kernel
theorem dX1_parcelsOnShelf_3 : decode cX1_parcelsOnShelf 3 = .ok (.istore_n 3, 1) := by decide +kernel
theorem dX1_parcelsOnShelf_4 : decode cX1_parcelsOnShelf 4 = .ok (.iload_n 3, 1) := by decide +kernel
theorem dX1_parcelsOnShelf_5 : decode cX1_parcelsOnShelf 5 = .ok (.bipush 8, 2) := by decide +kernel
theorem dX1_parcelsOnShelf_7 : decode cX1_parcelsOnShelf 7 = .ok (.if_icmp .ge 25, 3) := by decide +kernel
theorem dX1_parcelsOnShelf_10 : decode cX1_parcelsOnShelf 10 = .ok (.aload_n 0, 1) := by decide +kernel
theorem dX1_parcelsOnShelf_11 : decode cX1_parcelsOnShelf 11 = .ok (.iload_n 1, 1) := by decide +kernel
theorem dX1_parcelsOnShelf_12 : decode cX1_parcelsOnShelf 12 = .ok (.bipush 8, 2) := by decide +kernel
theorem dX1_parcelsOnShelf_14 : decode cX1_parcelsOnShelf 14 = .ok (.imul, 1) := by decide +kernel
theorem dX1_parcelsOnShelf_15 : decode cX1_parcelsOnShelf 15 = .ok (.iload_n 3, 1) := by decide +kernel
theorem dX1_parcelsOnShelf_16 : decode cX1_parcelsOnShelf 16 = .ok (.iadd, 1) := by decide +kernel
theorem dX1_parcelsOnShelf_17 : decode cX1_parcelsOnShelf 17 = .ok (.invokevirtual 88, 3) := by decide +kernel
theorem dX1_parcelsOnShelf_20 : decode cX1_parcelsOnShelf 20 = .ok (.ifCond .ne 6, 3) := by decide +kernel
theorem dX1_parcelsOnShelf_23 : decode cX1_parcelsOnShelf 23 = .ok (.iinc 2 1, 3) := by decide +kernel
theorem dX1_parcelsOnShelf_26 : decode cX1_parcelsOnShelf 26 = .ok (.iinc 3 1, 3) := by decide +kernel
theorem dX1_parcelsOnShelf_29 : decode cX1_parcelsOnShelf 29 = .ok (.goto (-25), 3) := by decide +kernel
theorem dX1_parcelsOnShelf_32 : decode cX1_parcelsOnShelf 32 = .ok (.iload_n 2, 1) := by decide +kernel
theorem dX1_parcelsOnShelf_33 : decode cX1_parcelsOnShelf 33 = .ok (.ireturn, 1) := by decide +kernel
set_option maxRecDepth 20000 in
theorem ggX1_restingOnShelf_X1_isFree : GoodIn wsX1_restingOnShelf wsX1_isFree := goodIn_r _ [5, 6, 23, 24, 25, 26, 27, 28, 29, 30, 31, 32, 33, 34, 35, 36] (by decide +kernel) (by decide +kernel)
set_option maxRecDepth 20000 in
theorem gX1_restingOnShelf_X1_isFree : GoodIn wsX1_restingOnShelf (wsV RX1 88 RX1 yX1_isFree wsX1_isFree) := goodIn_app (goodIn_of _ (by decide +kernel)) ggX1_restingOnShelf_X1_isFree
set_option maxRecDepth 20000 in
theorem ggX1_restingOnShelf_X1_restsToday : GoodIn wsX1_restingOnShelf wsX1_restsToday := goodIn_r _ [10, 11, 12, 13, 14, 15, 16, 17, 18, 19, 4, 20, 21, 22, 23, 24, 25, 26, 27, 28, 29, 30, 31, 32, 33, 34, 35, 36] (by decide +kernel) (by decide +kernel)
set_option maxRecDepth 20000 in
theorem gX1_restingOnShelf_X1_restsToday : GoodIn wsX1_restingOnShelf (wsV RX1 91 RX1 yX1_restsToday wsX1_restsToday) := goodIn_app (goodIn_of _ (by decide +kernel)) ggX1_restingOnShelf_X1_restsToday
theorem dX1_restingOnShelf_0 : decode cX1_restingOnShelf 0 = .ok (.iconst 0, 1) := by decide +kernel
theorem dX1_restingOnShelf_1 : decode cX1_restingOnShelf 1 = .ok (.istore_n 2, 1) := by decide +kernel
theorem dX1_restingOnShelf_2 : decode cX1_restingOnShelf 2 = .ok (.iconst 0, 1) := by decide +kernel
theorem dX1_restingOnShelf_3 : decode cX1_restingOnShelf 3 = .ok (.istore_n 3, 1) := by decide +kernel
theorem dX1_restingOnShelf_4 : decode cX1_restingOnShelf 4 = .ok (.iload_n 3, 1) := by decide +kernel
theorem dX1_restingOnShelf_5 : decode cX1_restingOnShelf 5 = .ok (.bipush 8, 2) := by decide +kernel
theorem dX1_restingOnShelf_7 : decode cX1_restingOnShelf 7 = .ok (.if_icmp .ge 38, 3) := by decide +kernel
theorem dX1_restingOnShelf_10 : decode cX1_restingOnShelf 10 = .ok (.iload_n 1, 1) := by decide +kernel
theorem dX1_restingOnShelf_11 : decode cX1_restingOnShelf 11 = .ok (.bipush 8, 2) := by decide +kernel
theorem dX1_restingOnShelf_13 : decode cX1_restingOnShelf 13 = .ok (.imul, 1) := by decide +kernel
theorem dX1_restingOnShelf_14 : decode cX1_restingOnShelf 14 = .ok (.iload_n 3, 1) := by decide +kernel
theorem dX1_restingOnShelf_15 : decode cX1_restingOnShelf 15 = .ok (.iadd, 1) := by decide +kernel
theorem dX1_restingOnShelf_16 : decode cX1_restingOnShelf 16 = .ok (.istore 4, 2) := by decide +kernel
theorem dX1_restingOnShelf_18 : decode cX1_restingOnShelf 18 = .ok (.aload_n 0, 1) := by decide +kernel
theorem dX1_restingOnShelf_19 : decode cX1_restingOnShelf 19 = .ok (.iload 4, 2) := by decide +kernel
theorem dX1_restingOnShelf_21 : decode cX1_restingOnShelf 21 = .ok (.invokevirtual 88, 3) := by decide +kernel
theorem dX1_restingOnShelf_24 : decode cX1_restingOnShelf 24 = .ok (.ifCond .eq 15, 3) := by decide +kernel
theorem dX1_restingOnShelf_27 : decode cX1_restingOnShelf 27 = .ok (.aload_n 0, 1) := by decide +kernel
theorem dX1_restingOnShelf_28 : decode cX1_restingOnShelf 28 = .ok (.iload 4, 2) := by decide +kernel
theorem dX1_restingOnShelf_30 : decode cX1_restingOnShelf 30 = .ok (.invokevirtual 91, 3) := by decide +kernel
theorem dX1_restingOnShelf_33 : decode cX1_restingOnShelf 33 = .ok (.ifCond .eq 6, 3) := by decide +kernel
theorem dX1_restingOnShelf_36 : decode cX1_restingOnShelf 36 = .ok (.iinc 2 1, 3) := by decide +kernel
theorem dX1_restingOnShelf_39 : decode cX1_restingOnShelf 39 = .ok (.iinc 3 1, 3) := by decide +kernel
theorem dX1_restingOnShelf_42 : decode cX1_restingOnShelf 42 = .ok (.goto (-38), 3) := by decide +kernel
theorem dX1_restingOnShelf_45 : decode cX1_restingOnShelf 45 = .ok (.iload_n 2, 1) := by decide +kernel
theorem dX1_restingOnShelf_46 : decode cX1_restingOnShelf 46 = .ok (.ireturn, 1) := by decide +kernel
set_option maxRecDepth 20000 in
theorem ggX1_parcelsOfSender_X1_isFree : GoodIn wsX1_parcelsOfSender wsX1_isFree := goodIn_r _ [6, 7, 8, 9, 10, 11, 12, 13, 14, 15, 16, 17, 18, 19, 20, 21] (by decide +kernel) (by decide +kernel)
set_option maxRecDepth 20000 in
theorem gX1_parcelsOfSender_X1_isFree : GoodIn wsX1_parcelsOfSender (wsV RX1 88 RX1 yX1_isFree wsX1_isFree) := goodIn_app (goodIn_of _ (by decide +kernel)) ggX1_parcelsOfSender_X1_isFree
theorem dX1_parcelsOfSender_0 : decode cX1_parcelsOfSender 0 = .ok (.iconst 0, 1) := by decide +kernel
theorem dX1_parcelsOfSender_1 : decode cX1_parcelsOfSender 1 = .ok (.istore_n 2, 1) := by decide +kernel
theorem dX1_parcelsOfSender_2 : decode cX1_parcelsOfSender 2 = .ok (.iconst 0, 1) := by decide +kernel
theorem dX1_parcelsOfSender_3 : decode cX1_parcelsOfSender 3 = .ok (.istore_n 3, 1) := by decide +kernel
theorem dX1_parcelsOfSender_4 : decode cX1_parcelsOfSender 4 = .ok (.iload_n 3, 1) := by decide +kernel
theorem dX1_parcelsOfSender_5 : decode cX1_parcelsOfSender 5 = .ok (.bipush 48, 2) := by decide +kernel
theorem dX1_parcelsOfSender_7 : decode cX1_parcelsOfSender 7 = .ok (.if_icmp .ge 30, 3) := by decide +kernel
theorem dX1_parcelsOfSender_10 : decode cX1_parcelsOfSender 10 = .ok (.aload_n 0, 1) := by decide +kernel
theorem dX1_parcelsOfSender_11 : decode cX1_parcelsOfSender 11 = .ok (.iload_n 3, 1) := by decide +kernel
theorem dX1_parcelsOfSender_12 : decode cX1_parcelsOfSender 12 = .ok (.invokevirtual 88, 3) := by decide +kernel
theorem dX1_parcelsOfSender_15 : decode cX1_parcelsOfSender 15 = .ok (.ifCond .ne 16, 3) := by decide +kernel
theorem dX1_parcelsOfSender_18 : decode cX1_parcelsOfSender 18 = .ok (.aload_n 0, 1) := by decide +kernel
theorem dX1_parcelsOfSender_19 : decode cX1_parcelsOfSender 19 = .ok (.getfield 18, 3) := by decide +kernel
theorem dX1_parcelsOfSender_22 : decode cX1_parcelsOfSender 22 = .ok (.iload_n 3, 1) := by decide +kernel
theorem dX1_parcelsOfSender_23 : decode cX1_parcelsOfSender 23 = .ok (.iaload, 1) := by decide +kernel
theorem dX1_parcelsOfSender_24 : decode cX1_parcelsOfSender 24 = .ok (.iload_n 1, 1) := by decide +kernel
theorem dX1_parcelsOfSender_25 : decode cX1_parcelsOfSender 25 = .ok (.if_icmp .ne 6, 3) := by decide +kernel
theorem dX1_parcelsOfSender_28 : decode cX1_parcelsOfSender 28 = .ok (.iinc 2 1, 3) := by decide +kernel
theorem dX1_parcelsOfSender_31 : decode cX1_parcelsOfSender 31 = .ok (.iinc 3 1, 3) := by decide +kernel
theorem dX1_parcelsOfSender_34 : decode cX1_parcelsOfSender 34 = .ok (.goto (-30), 3) := by decide +kernel
theorem dX1_parcelsOfSender_37 : decode cX1_parcelsOfSender 37 = .ok (.iload_n 2, 1) := by decide +kernel
theorem dX1_parcelsOfSender_38 : decode cX1_parcelsOfSender 38 = .ok (.ireturn, 1) := by decide +kernel
set_option maxRecDepth 20000 in
theorem ggX1_feesOnShelves_X1_isFree : GoodIn wsX1_feesOnShelves wsX1_isFree := goodIn_r _ [5, 6, 19, 20, 21, 22, 23, 24, 25, 26, 27, 28, 29, 30, 31, 32] (by decide +kernel) (by decide +kernel)
set_option maxRecDepth 20000 in
theorem gX1_feesOnShelves_X1_isFree : GoodIn wsX1_feesOnShelves (wsV RX1 88 RX1 yX1_isFree wsX1_isFree) := goodIn_app (goodIn_of _ (by decide +kernel)) ggX1_feesOnShelves_X1_isFree
set_option maxRecDepth 20000 in
theorem ggX1_feesOnShelves_X1_feeAfter : GoodIn wsX1_feesOnShelves wsX1_feeAfter := goodIn_r _ [10, 11, 12, 13, 14, 15, 16, 17, 18, 19, 20, 21, 22, 23, 24, 25, 26, 27, 28, 29, 30, 31, 32] (by decide +kernel) (by decide +kernel)
set_option maxRecDepth 20000 in
theorem gX1_feesOnShelves_X1_feeAfter : GoodIn wsX1_feesOnShelves (wsV RX1 119 RX1 yX1_feeAfter wsX1_feeAfter) := goodIn_app (goodIn_of _ (by decide +kernel)) ggX1_feesOnShelves_X1_feeAfter
theorem dX1_feesOnShelves_0 : decode cX1_feesOnShelves 0 = .ok (.iconst 0, 1) := by decide +kernel
theorem dX1_feesOnShelves_1 : decode cX1_feesOnShelves 1 = .ok (.istore_n 1, 1) := by decide +kernel
theorem dX1_feesOnShelves_2 : decode cX1_feesOnShelves 2 = .ok (.iconst 0, 1) := by decide +kernel
theorem dX1_feesOnShelves_3 : decode cX1_feesOnShelves 3 = .ok (.istore_n 2, 1) := by decide +kernel
theorem dX1_feesOnShelves_4 : decode cX1_feesOnShelves 4 = .ok (.iload_n 2, 1) := by decide +kernel
theorem dX1_feesOnShelves_5 : decode cX1_feesOnShelves 5 = .ok (.bipush 48, 2) := by decide +kernel
theorem dX1_feesOnShelves_7 : decode cX1_feesOnShelves 7 = .ok (.if_icmp .ge 26, 3) := by decide +kernel
theorem dX1_feesOnShelves_10 : decode cX1_feesOnShelves 10 = .ok (.aload_n 0, 1) := by decide +kernel
theorem dX1_feesOnShelves_11 : decode cX1_feesOnShelves 11 = .ok (.iload_n 2, 1) := by decide +kernel
theorem dX1_feesOnShelves_12 : decode cX1_feesOnShelves 12 = .ok (.invokevirtual 88, 3) := by decide +kernel
theorem dX1_feesOnShelves_15 : decode cX1_feesOnShelves 15 = .ok (.ifCond .ne 12, 3) := by decide +kernel
theorem dX1_feesOnShelves_18 : decode cX1_feesOnShelves 18 = .ok (.iload_n 1, 1) := by decide +kernel
theorem dX1_feesOnShelves_19 : decode cX1_feesOnShelves 19 = .ok (.aload_n 0, 1) := by decide +kernel
theorem dX1_feesOnShelves_20 : decode cX1_feesOnShelves 20 = .ok (.iload_n 2, 1) := by decide +kernel
theorem dX1_feesOnShelves_21 : decode cX1_feesOnShelves 21 = .ok (.iconst 0, 1) := by decide +kernel
theorem dX1_feesOnShelves_22 : decode cX1_feesOnShelves 22 = .ok (.invokevirtual 119, 3) := by decide +kernel
theorem dX1_feesOnShelves_25 : decode cX1_feesOnShelves 25 = .ok (.iadd, 1) := by decide +kernel
theorem dX1_feesOnShelves_26 : decode cX1_feesOnShelves 26 = .ok (.istore_n 1, 1) := by decide +kernel
theorem dX1_feesOnShelves_27 : decode cX1_feesOnShelves 27 = .ok (.iinc 2 1, 3) := by decide +kernel
theorem dX1_feesOnShelves_30 : decode cX1_feesOnShelves 30 = .ok (.goto (-26), 3) := by decide +kernel
theorem dX1_feesOnShelves_33 : decode cX1_feesOnShelves 33 = .ok (.iload_n 1, 1) := by decide +kernel
theorem dX1_feesOnShelves_34 : decode cX1_feesOnShelves 34 = .ok (.ireturn, 1) := by decide +kernel
theorem dX2_init_0 : decode cX2_init 0 = .ok (.aload_n 0, 1) := by decide +kernel
theorem dX2_init_1 : decode cX2_init 1 = .ok (.invokespecial 5, 3) := by decide +kernel
theorem dX2_init_4 : decode cX2_init 4 = .ok (.aload_n 0, 1) := by decide +kernel
theorem dX2_init_5 : decode cX2_init 5 = .ok (.bipush 80, 2) := by decide +kernel
theorem dX2_init_7 : decode cX2_init 7 = .ok (.newarray .char, 2) := by decide +kernel
theorem dX2_init_9 : decode cX2_init 9 = .ok (.putfield 11, 3) := by decide +kernel
theorem dX2_init_12 : decode cX2_init 12 = .ok (.return_, 1) := by decide +kernel
theorem dX2_isFull_0 : decode cX2_isFull 0 = .ok (.aload_n 0, 1) := by decide +kernel
theorem dX2_isFull_1 : decode cX2_isFull 1 = .ok (.getfield 15, 3) := by decide +kernel
theorem dX2_isFull_4 : decode cX2_isFull 4 = .ok (.bipush 80, 2) := by decide +kernel
theorem dX2_isFull_6 : decode cX2_isFull 6 = .ok (.if_icmp .lt 7, 3) := by decide +kernel
theorem dX2_isFull_9 : decode cX2_isFull 9 = .ok (.iconst 1, 1) := by decide +kernel
theorem dX2_isFull_10 : decode cX2_isFull 10 = .ok (.goto 4, 3) := by decide +kernel
theorem dX2_isFull_13 : decode cX2_isFull 13 = .ok (.iconst 0, 1) := by decide +kernel
theorem dX2_isFull_14 : decode cX2_isFull 14 = .ok (.ireturn, 1) := by decide +kernel
theorem dX2_add_0 : decode cX2_add 0 = .ok (.aload_n 0, 1) := by decide +kernel
theorem dX2_add_1 : decode cX2_add 1 = .ok (.getfield 15, 3) := by decide +kernel
theorem dX2_add_4 : decode cX2_add 4 = .ok (.bipush 80, 2) := by decide +kernel
theorem dX2_add_6 : decode cX2_add 6 = .ok (.if_icmp .ge 23, 3) := by decide +kernel
theorem dX2_add_9 : decode cX2_add 9 = .ok (.aload_n 0, 1) := by decide +kernel
theorem dX2_add_10 : decode cX2_add 10 = .ok (.getfield 11, 3) := by decide +kernel
theorem dX2_add_13 : decode cX2_add 13 = .ok (.aload_n 0, 1) := by decide +kernel
theorem dX2_add_14 : decode cX2_add 14 = .ok (.getfield 15, 3) := by decide +kernel
theorem dX2_add_17 : decode cX2_add 17 = .ok (.iload_n 1, 1) := by decide +kernel
theorem dX2_add_18 : decode cX2_add 18 = .ok (.castore, 1) := by decide +kernel
theorem dX2_add_19 : decode cX2_add 19 = .ok (.aload_n 0, 1) := by decide +kernel
theorem dX2_add_20 : decode cX2_add 20 = .ok (.dup, 1) := by decide +kernel
theorem dX2_add_21 : decode cX2_add 21 = .ok (.getfield 15, 3) := by decide +kernel
theorem dX2_add_24 : decode cX2_add 24 = .ok (.iconst 1, 1) := by decide +kernel
theorem dX2_add_25 : decode cX2_add 25 = .ok (.iadd, 1) := by decide +kernel
theorem dX2_add_26 : decode cX2_add 26 = .ok (.putfield 15, 3) := by decide +kernel
theorem dX2_add_29 : decode cX2_add 29 = .ok (.aload_n 0, 1) := by decide +kernel
theorem dX2_add_30 : decode cX2_add 30 = .ok (.getfield 15, 3) := by decide +kernel
theorem dX2_add_33 : decode cX2_add 33 = .ok (.ireturn, 1) := by decide +kernel
theorem dX2_empty_0 : decode cX2_empty 0 = .ok (.aload_n 0, 1) := by decide +kernel
theorem dX2_empty_1 : decode cX2_empty 1 = .ok (.getfield 15, 3) := by decide +kernel
theorem dX2_empty_4 : decode cX2_empty 4 = .ok (.istore_n 1, 1) := by decide +kernel
theorem dX2_empty_5 : decode cX2_empty 5 = .ok (.aload_n 0, 1) := by decide +kernel
theorem dX2_empty_6 : decode cX2_empty 6 = .ok (.iconst 0, 1) := by decide +kernel
theorem dX2_empty_7 : decode cX2_empty 7 = .ok (.putfield 15, 3) := by decide +kernel
theorem dX2_empty_10 : decode cX2_empty 10 = .ok (.iload_n 1, 1) := by decide +kernel
theorem dX2_empty_11 : decode cX2_empty 11 = .ok (.ireturn, 1) := by decide +kernel
set_option maxRecDepth 20000 in
theorem ggX2_signAt_X3_isWithin : GoodIn wsX2_signAt wsX3_isWithin := goodIn_r _ [5] (by decide +kernel) (by decide +kernel)
set_option maxRecDepth 20000 in
theorem gX2_signAt_X3_isWithin_n19 : GoodIn wsX2_signAt (wsX3_isWithin) := ggX2_signAt_X3_isWithin
theorem dX2_signAt_0 : decode cX2_signAt 0 = .ok (.iload_n 1, 1) := by decide +kernel
theorem dX2_signAt_1 : decode cX2_signAt 1 = .ok (.iconst 0, 1) := by decide +kernel
theorem dX2_signAt_2 : decode cX2_signAt 2 = .ok (.aload_n 0, 1) := by decide +kernel
theorem dX2_signAt_3 : decode cX2_signAt 3 = .ok (.getfield 15, 3) := by decide +kernel
theorem dX2_signAt_6 : decode cX2_signAt 6 = .ok (.iconst 1, 1) := by decide +kernel
theorem dX2_signAt_7 : decode cX2_signAt 7 = .ok (.isub, 1) := by decide +kernel
theorem dX2_signAt_8 : decode cX2_signAt 8 = .ok (.invokestatic 19, 3) := by decide +kernel
theorem dX2_signAt_11 : decode cX2_signAt 11 = .ok (.ifCond .eq 12, 3) := by decide +kernel
theorem dX2_signAt_14 : decode cX2_signAt 14 = .ok (.aload_n 0, 1) := by decide +kernel
theorem dX2_signAt_15 : decode cX2_signAt 15 = .ok (.getfield 11, 3) := by decide +kernel
theorem dX2_signAt_18 : decode cX2_signAt 18 = .ok (.iload_n 1, 1) := by decide +kernel
theorem dX2_signAt_19 : decode cX2_signAt 19 = .ok (.caload, 1) := by decide +kernel
theorem dX2_signAt_20 : decode cX2_signAt 20 = .ok (.goto 4, 3) := by decide +kernel
theorem dX2_signAt_23 : decode cX2_signAt 23 = .ok (.iconst 0, 1) := by decide +kernel
theorem dX2_signAt_24 : decode cX2_signAt 24 = .ok (.ireturn, 1) := by decide +kernel
set_option maxRecDepth 20000 in
theorem ggX2_firstError_X2_signAt : GoodIn wsX2_firstError wsX2_signAt := goodIn_r _ [6, 1, 7, 8, 9, 10, 32, 33] (by decide +kernel) (by decide +kernel)
set_option maxRecDepth 20000 in
theorem gX2_firstError_X2_signAt : GoodIn wsX2_firstError (wsV RX2 23 RX2 yX2_signAt wsX2_signAt) := goodIn_app (goodIn_of _ (by decide +kernel)) ggX2_firstError_X2_signAt
set_option maxRecDepth 20000 in
theorem ggX2_firstError_X2_phaseAfter : GoodIn wsX2_firstError wsX2_phaseAfter := goodIn_r _ [13, 14, 15, 5, 16, 17, 18, 19, 20, 21, 22, 8, 9, 10, 23, 24, 25, 26, 27, 28, 29, 30, 31] (by decide +kernel) (by decide +kernel)
set_option maxRecDepth 20000 in
theorem gX2_firstError_X2_phaseAfter : GoodIn wsX2_firstError (va_wsS RX2 27 yX2_phaseAfter wsX2_phaseAfter) := goodIn_app (goodIn_of _ (by decide +kernel)) ggX2_firstError_X2_phaseAfter
set_option maxRecDepth 20000 in
theorem ggX2_firstError_X2_isEndAllowed : GoodIn wsX2_firstError wsX2_isEndAllowed := goodIn_r _ [16] (by decide +kernel) (by decide +kernel)
set_option maxRecDepth 20000 in
theorem gX2_firstError_X2_isEndAllowed : GoodIn wsX2_firstError (va_wsS RX2 31 yX2_isEndAllowed wsX2_isEndAllowed) := goodIn_app (goodIn_of _ (by decide +kernel)) ggX2_firstError_X2_isEndAllowed
theorem dX2_firstError_0 : decode cX2_firstError 0 = .ok (.iconst 0, 1) := by decide +kernel
theorem dX2_firstError_1 : decode cX2_firstError 1 = .ok (.istore_n 1, 1) := by decide +kernel
theorem dX2_firstError_2 : decode cX2_firstError 2 = .ok (.iconst 0, 1) := by decide +kernel
theorem dX2_firstError_3 : decode cX2_firstError 3 = .ok (.istore_n 2, 1) := by decide +kernel
theorem dX2_firstError_4 : decode cX2_firstError 4 = .ok (.iload_n 2, 1) := by decide +kernel
theorem dX2_firstError_5 : decode cX2_firstError 5 = .ok (.aload_n 0, 1) := by decide +kernel
theorem dX2_firstError_6 : decode cX2_firstError 6 = .ok (.getfield 15, 3) := by decide +kernel
theorem dX2_firstError_9 : decode cX2_firstError 9 = .ok (.if_icmp .ge 26, 3) := by decide +kernel
theorem dX2_firstError_12 : decode cX2_firstError 12 = .ok (.iload_n 1, 1) := by decide +kernel
theorem dX2_firstError_13 : decode cX2_firstError 13 = .ok (.aload_n 0, 1) := by decide +kernel
theorem dX2_firstError_14 : decode cX2_firstError 14 = .ok (.iload_n 2, 1) := by decide +kernel
theorem dX2_firstError_15 : decode cX2_firstError 15 = .ok (.invokevirtual 23, 3) := by decide +kernel
theorem dX2_firstError_18 : decode cX2_firstError 18 = .ok (.invokestatic 27, 3) := by decide +kernel
theorem dX2_firstError_21 : decode cX2_firstError 21 = .ok (.istore_n 1, 1) := by decide +kernel
theorem dX2_firstError_22 : decode cX2_firstError 22 = .ok (.iload_n 1, 1) := by decide +kernel
theorem dX2_firstError_23 : decode cX2_firstError 23 = .ok (.iconst (-1), 1) := by decide +kernel
theorem dX2_firstError_24 : decode cX2_firstError 24 = .ok (.if_icmp .ne 5, 3) := by decide +kernel
theorem dX2_firstError_27 : decode cX2_firstError 27 = .ok (.iload_n 2, 1) := by decide +kernel
theorem dX2_firstError_28 : decode cX2_firstError 28 = .ok (.ireturn, 1) := by decide +kernel
theorem dX2_firstError_29 : decode cX2_firstError 29 = .ok (.iinc 2 1, 3) := by decide +kernel
theorem dX2_firstError_32 : decode cX2_firstError 32 = .ok (.goto (-28), 3) := by decide +kernel
theorem dX2_firstError_35 : decode cX2_firstError 35 = .ok (.iload_n 1, 1) := by decide +kernel
theorem dX2_firstError_36 : decode cX2_firstError 36 = .ok (.invokestatic 31, 3) := by decide +kernel
theorem dX2_firstError_39 : decode cX2_firstError 39 = .ok (.ifCond .eq 8, 3) := by decide +kernel
theorem dX2_firstError_42 : decode cX2_firstError 42 = .ok (.bipush (-6), 2) := by decide +kernel
theorem dX2_firstError_44 : decode cX2_firstError 44 = .ok (.goto 7, 3) := by decide +kernel
theorem dX2_firstError_47 : decode cX2_firstError 47 = .ok (.aload_n 0, 1) := by decide +kernel
theorem dX2_firstError_48 : decode cX2_firstError 48 = .ok (.getfield 15, 3) := by decide +kernel
theorem dX2_firstError_51 : decode cX2_firstError 51 = .ok (.ireturn, 1) := by decide +kernel
theorem dX2_isEndAllowed_0 : decode cX2_isEndAllowed 0 = .ok (.iload_n 0, 1) := by decide +kernel
theorem dX2_isEndAllowed_1 : decode cX2_isEndAllowed 1 = .ok (.bipush 6, 2) := by decide +kernel
theorem dX2_isEndAllowed_3 : decode cX2_isEndAllowed 3 = .ok (.if_icmp .eq 13, 3) := by decide +kernel
theorem dX2_isEndAllowed_6 : decode cX2_isEndAllowed 6 = .ok (.iload_n 0, 1) := by decide +kernel
theorem dX2_isEndAllowed_7 : decode cX2_isEndAllowed 7 = .ok (.iconst 4, 1) := by decide +kernel
theorem dX2_isEndAllowed_8 : decode cX2_isEndAllowed 8 = .ok (.if_icmp .eq 8, 3) := by decide +kernel
theorem dX2_isEndAllowed_11 : decode cX2_isEndAllowed 11 = .ok (.iload_n 0, 1) := by decide +kernel
theorem dX2_isEndAllowed_12 : decode cX2_isEndAllowed 12 = .ok (.iconst 5, 1) := by decide +kernel
theorem dX2_isEndAllowed_13 : decode cX2_isEndAllowed 13 = .ok (.if_icmp .ne 7, 3) := by decide +kernel
theorem dX2_isEndAllowed_16 : decode cX2_isEndAllowed 16 = .ok (.iconst 1, 1) := by decide +kernel
theorem dX2_isEndAllowed_17 : decode cX2_isEndAllowed 17 = .ok (.goto 4, 3) := by decide +kernel
theorem dX2_isEndAllowed_20 : decode cX2_isEndAllowed 20 = .ok (.iconst 0, 1) := by decide +kernel
theorem dX2_isEndAllowed_21 : decode cX2_isEndAllowed 21 = .ok (.ireturn, 1) := by decide +kernel
set_option maxRecDepth 20000 in
theorem ggX2_phaseAfter_X2_isEndAllowed : GoodIn wsX2_phaseAfter wsX2_isEndAllowed := goodIn_r _ [4] (by decide +kernel) (by decide +kernel)
set_option maxRecDepth 20000 in
theorem gX2_phaseAfter_X2_isEndAllowed : GoodIn wsX2_phaseAfter (va_wsS RX2 31 yX2_isEndAllowed wsX2_isEndAllowed) := goodIn_app (goodIn_of _ (by decide +kernel)) ggX2_phaseAfter_X2_isEndAllowed
set_option maxRecDepth 20000 in
theorem ggX2_phaseAfter_X2_phaseAfterLetter : GoodIn wsX2_phaseAfter wsX2_phaseAfterLetter := goodIn_r _ [7] (by decide +kernel) (by decide +kernel)
set_option maxRecDepth 20000 in
theorem gX2_phaseAfter_X2_phaseAfterLetter : GoodIn wsX2_phaseAfter (va_wsS RX2 35 yX2_phaseAfterLetter wsX2_phaseAfterLetter) := goodIn_app (goodIn_of _ (by decide +kernel)) ggX2_phaseAfter_X2_phaseAfterLetter
set_option maxRecDepth 20000 in
theorem ggX2_phaseAfter_X2_isDigit : GoodIn wsX2_phaseAfter wsX2_isDigit := goodIn_r _ [10, 11, 12, 13] (by decide +kernel) (by decide +kernel)
set_option maxRecDepth 20000 in
theorem gX2_phaseAfter_X2_isDigit : GoodIn wsX2_phaseAfter (va_wsS RX2 39 yX2_isDigit wsX2_isDigit) := goodIn_app (goodIn_of _ (by decide +kernel)) ggX2_phaseAfter_X2_isDigit
set_option maxRecDepth 20000 in
theorem ggX2_phaseAfter_X2_sizeOf : GoodIn wsX2_phaseAfter wsX2_sizeOf := goodIn_r _ [16] (by decide +kernel) (by decide +kernel)
set_option maxRecDepth 20000 in
theorem gX2_phaseAfter_X2_sizeOf : GoodIn wsX2_phaseAfter (va_wsS RX2 43 yX2_sizeOf wsX2_sizeOf) := goodIn_app (goodIn_of _ (by decide +kernel)) ggX2_phaseAfter_X2_sizeOf
set_option maxRecDepth 20000 in
theorem ggX2_phaseAfter_X2_phaseAfterFirstDigit : GoodIn wsX2_phaseAfter wsX2_phaseAfterFirstDigit := goodIn_r _ [19, 11, 12, 13] (by decide +kernel) (by decide +kernel)
set_option maxRecDepth 20000 in
theorem gX2_phaseAfter_X2_phaseAfterFirstDigit : GoodIn wsX2_phaseAfter (va_wsS RX2 46 yX2_phaseAfterFirstDigit wsX2_phaseAfterFirstDigit) := goodIn_app (goodIn_of _ (by decide +kernel)) ggX2_phaseAfter_X2_phaseAfterFirstDigit
set_option maxRecDepth 20000 in
theorem ggX2_phaseAfter_X3_isWithin : GoodIn wsX2_phaseAfter wsX3_isWithin := goodIn_r _ [13] (by decide +kernel) (by decide +kernel)
set_option maxRecDepth 20000 in
theorem gX2_phaseAfter_X3_isWithin_n19 : GoodIn wsX2_phaseAfter (wsX3_isWithin) := ggX2_phaseAfter_X3_isWithin
set_option maxRecDepth 20000 in
theorem ggX2_phaseAfter_X2_phaseInCode : GoodIn wsX2_phaseAfter wsX2_phaseInCode := goodIn_r _ [22, 8, 9, 3, 10, 11, 12, 13] (by decide +kernel) (by decide +kernel)
set_option maxRecDepth 20000 in
theorem gX2_phaseAfter_X2_phaseInCode : GoodIn wsX2_phaseAfter (va_wsS RX2 49 yX2_phaseInCode wsX2_phaseInCode) := goodIn_app (goodIn_of _ (by decide +kernel)) ggX2_phaseAfter_X2_phaseInCode
theorem dX2_phaseAfter_0 : decode cX2_phaseAfter 0 = .ok (.iload_n 0, 1) := by decide +kernel
theorem dX2_phaseAfter_1 : decode cX2_phaseAfter 1 = .ok (.invokestatic 31, 3) := by decide +kernel
theorem dX2_phaseAfter_4 : decode cX2_phaseAfter 4 = .ok (.ifCond .eq 11, 3) := by decide +kernel
theorem dX2_phaseAfter_7 : decode cX2_phaseAfter 7 = .ok (.iload_n 1, 1) := by decide +kernel
theorem dX2_phaseAfter_8 : decode cX2_phaseAfter 8 = .ok (.bipush 59, 2) := by decide +kernel
theorem dX2_phaseAfter_10 : decode cX2_phaseAfter 10 = .ok (.if_icmp .ne 5, 3) := by decide +kernel
theorem dX2_phaseAfter_13 : decode cX2_phaseAfter 13 = .ok (.iconst 0, 1) := by decide +kernel
theorem dX2_phaseAfter_14 : decode cX2_phaseAfter 14 = .ok (.ireturn, 1) := by decide +kernel
theorem dX2_phaseAfter_15 : decode cX2_phaseAfter 15 = .ok (.iload_n 0, 1) := by decide +kernel
theorem dX2_phaseAfter_16 : decode cX2_phaseAfter 16 = .ok (.tableswitch 215 0 25 #[120, 125, 138, 152, 157, 171, 215, 215, 215, 215, 215, 215, 215, 215, 215, 215, 215, 215, 215, 215, 215, 215, 215, 215, 184, 197], 120) := by decide +kernel
theorem dX2_phaseAfter_136 : decode cX2_phaseAfter 136 = .ok (.iload_n 1, 1) := by decide +kernel
theorem dX2_phaseAfter_137 : decode cX2_phaseAfter 137 = .ok (.invokestatic 35, 3) := by decide +kernel
theorem dX2_phaseAfter_140 : decode cX2_phaseAfter 140 = .ok (.ireturn, 1) := by decide +kernel
theorem dX2_phaseAfter_141 : decode cX2_phaseAfter 141 = .ok (.iload_n 1, 1) := by decide +kernel
theorem dX2_phaseAfter_142 : decode cX2_phaseAfter 142 = .ok (.invokestatic 39, 3) := by decide +kernel
theorem dX2_phaseAfter_145 : decode cX2_phaseAfter 145 = .ok (.ifCond .eq 7, 3) := by decide +kernel
theorem dX2_phaseAfter_148 : decode cX2_phaseAfter 148 = .ok (.iconst 2, 1) := by decide +kernel
theorem dX2_phaseAfter_149 : decode cX2_phaseAfter 149 = .ok (.goto 4, 3) := by decide +kernel
theorem dX2_phaseAfter_152 : decode cX2_phaseAfter 152 = .ok (.iconst (-1), 1) := by decide +kernel
theorem dX2_phaseAfter_153 : decode cX2_phaseAfter 153 = .ok (.ireturn, 1) := by decide +kernel
theorem dX2_phaseAfter_154 : decode cX2_phaseAfter 154 = .ok (.iload_n 1, 1) := by decide +kernel
theorem dX2_phaseAfter_155 : decode cX2_phaseAfter 155 = .ok (.invokestatic 43, 3) := by decide +kernel
theorem dX2_phaseAfter_158 : decode cX2_phaseAfter 158 = .ok (.ifCond .lt 8, 3) := by decide +kernel
theorem dX2_phaseAfter_161 : decode cX2_phaseAfter 161 = .ok (.bipush 6, 2) := by decide +kernel
theorem dX2_phaseAfter_163 : decode cX2_phaseAfter 163 = .ok (.goto 4, 3) := by decide +kernel
theorem dX2_phaseAfter_166 : decode cX2_phaseAfter 166 = .ok (.iconst (-1), 1) := by decide +kernel
theorem dX2_phaseAfter_167 : decode cX2_phaseAfter 167 = .ok (.ireturn, 1) := by decide +kernel
theorem dX2_phaseAfter_168 : decode cX2_phaseAfter 168 = .ok (.iload_n 1, 1) := by decide +kernel
theorem dX2_phaseAfter_169 : decode cX2_phaseAfter 169 = .ok (.invokestatic 46, 3) := by decide +kernel
theorem dX2_phaseAfter_172 : decode cX2_phaseAfter 172 = .ok (.ireturn, 1) := by decide +kernel
theorem dX2_phaseAfter_173 : decode cX2_phaseAfter 173 = .ok (.iload_n 1, 1) := by decide +kernel
theorem dX2_phaseAfter_174 : decode cX2_phaseAfter 174 = .ok (.invokestatic 39, 3) := by decide +kernel
theorem dX2_phaseAfter_177 : decode cX2_phaseAfter 177 = .ok (.ifCond .eq 8, 3) := by decide +kernel
theorem dX2_phaseAfter_180 : decode cX2_phaseAfter 180 = .ok (.bipush 6, 2) := by decide +kernel
theorem dX2_phaseAfter_182 : decode cX2_phaseAfter 182 = .ok (.goto 4, 3) := by decide +kernel
theorem dX2_phaseAfter_185 : decode cX2_phaseAfter 185 = .ok (.iconst (-1), 1) := by decide +kernel
theorem dX2_phaseAfter_186 : decode cX2_phaseAfter 186 = .ok (.ireturn, 1) := by decide +kernel
theorem dX2_phaseAfter_187 : decode cX2_phaseAfter 187 = .ok (.iload_n 1, 1) := by decide +kernel
theorem dX2_phaseAfter_188 : decode cX2_phaseAfter 188 = .ok (.bipush 48, 2) := by decide +kernel
theorem dX2_phaseAfter_190 : decode cX2_phaseAfter 190 = .ok (.if_icmp .ne 8, 3) := by decide +kernel
theorem dX2_phaseAfter_193 : decode cX2_phaseAfter 193 = .ok (.bipush 6, 2) := by decide +kernel
theorem dX2_phaseAfter_195 : decode cX2_phaseAfter 195 = .ok (.goto 4, 3) := by decide +kernel
theorem dX2_phaseAfter_198 : decode cX2_phaseAfter 198 = .ok (.iconst (-1), 1) := by decide +kernel
theorem dX2_phaseAfter_199 : decode cX2_phaseAfter 199 = .ok (.ireturn, 1) := by decide +kernel
theorem dX2_phaseAfter_200 : decode cX2_phaseAfter 200 = .ok (.iload_n 1, 1) := by decide +kernel
theorem dX2_phaseAfter_201 : decode cX2_phaseAfter 201 = .ok (.bipush 62, 2) := by decide +kernel
theorem dX2_phaseAfter_203 : decode cX2_phaseAfter 203 = .ok (.if_icmp .ne 8, 3) := by decide +kernel
theorem dX2_phaseAfter_206 : decode cX2_phaseAfter 206 = .ok (.bipush 25, 2) := by decide +kernel
theorem dX2_phaseAfter_208 : decode cX2_phaseAfter 208 = .ok (.goto 4, 3) := by decide +kernel
theorem dX2_phaseAfter_211 : decode cX2_phaseAfter 211 = .ok (.iconst (-1), 1) := by decide +kernel
theorem dX2_phaseAfter_212 : decode cX2_phaseAfter 212 = .ok (.ireturn, 1) := by decide +kernel
theorem dX2_phaseAfter_213 : decode cX2_phaseAfter 213 = .ok (.iload_n 1, 1) := by decide +kernel
theorem dX2_phaseAfter_214 : decode cX2_phaseAfter 214 = .ok (.bipush 48, 2) := by decide +kernel
theorem dX2_phaseAfter_216 : decode cX2_phaseAfter 216 = .ok (.bipush 53, 2) := by decide +kernel
theorem dX2_phaseAfter_218 : decode cX2_phaseAfter 218 = .ok (.invokestatic 19, 3) := by decide +kernel
theorem dX2_phaseAfter_221 : decode cX2_phaseAfter 221 = .ok (.ifCond .eq 8, 3) := by decide +kernel
theorem dX2_phaseAfter_224 : decode cX2_phaseAfter 224 = .ok (.bipush 6, 2) := by decide +kernel
theorem dX2_phaseAfter_226 : decode cX2_phaseAfter 226 = .ok (.goto 4, 3) := by decide +kernel
theorem dX2_phaseAfter_229 : decode cX2_phaseAfter 229 = .ok (.iconst (-1), 1) := by decide +kernel
theorem dX2_phaseAfter_230 : decode cX2_phaseAfter 230 = .ok (.ireturn, 1) := by decide +kernel
theorem dX2_phaseAfter_231 : decode cX2_phaseAfter 231 = .ok (.iload_n 0, 1) := by decide +kernel
theorem dX2_phaseAfter_232 : decode cX2_phaseAfter 232 = .ok (.iload_n 1, 1) := by decide +kernel
theorem dX2_phaseAfter_233 : decode cX2_phaseAfter 233 = .ok (.invokestatic 49, 3) := by decide +kernel
theorem dX2_phaseAfter_236 : decode cX2_phaseAfter 236 = .ok (.ireturn, 1) := by decide +kernel
theorem dX2_phaseAfterLetter_0 : decode cX2_phaseAfterLetter 0 = .ok (.iload_n 0, 1) := by decide +kernel
theorem dX2_phaseAfterLetter_1 : decode cX2_phaseAfterLetter 1 = .ok (.lookupswitch 61 #[(97, 51), (100, 59), (109, 56), (112, 53), (120, 53)], 51) := by decide +kernel
theorem dX2_phaseAfterLetter_52 : decode cX2_phaseAfterLetter 52 = .ok (.iconst 1, 1) := by decide +kernel
theorem dX2_phaseAfterLetter_53 : decode cX2_phaseAfterLetter 53 = .ok (.ireturn, 1) := by decide +kernel
theorem dX2_phaseAfterLetter_54 : decode cX2_phaseAfterLetter 54 = .ok (.bipush 10, 2) := by decide +kernel
theorem dX2_phaseAfterLetter_56 : decode cX2_phaseAfterLetter 56 = .ok (.ireturn, 1) := by decide +kernel
theorem dX2_phaseAfterLetter_57 : decode cX2_phaseAfterLetter 57 = .ok (.bipush 20, 2) := by decide +kernel
theorem dX2_phaseAfterLetter_59 : decode cX2_phaseAfterLetter 59 = .ok (.ireturn, 1) := by decide +kernel
theorem dX2_phaseAfterLetter_60 : decode cX2_phaseAfterLetter 60 = .ok (.iconst 3, 1) := by decide +kernel
theorem dX2_phaseAfterLetter_61 : decode cX2_phaseAfterLetter 61 = .ok (.ireturn, 1) := by decide +kernel
theorem dX2_phaseAfterLetter_62 : decode cX2_phaseAfterLetter 62 = .ok (.iconst (-1), 1) := by decide +kernel
theorem dX2_phaseAfterLetter_63 : decode cX2_phaseAfterLetter 63 = .ok (.ireturn, 1) := by decide +kernel
set_option maxRecDepth 20000 in
theorem ggX2_phaseAfterFirstDigit_X3_isWithin : GoodIn wsX2_phaseAfterFirstDigit wsX3_isWithin := goodIn_r _ [3] (by decide +kernel) (by decide +kernel)
set_option maxRecDepth 20000 in
theorem gX2_phaseAfterFirstDigit_X3_isWithin_n19 : GoodIn wsX2_phaseAfterFirstDigit (wsX3_isWithin) := ggX2_phaseAfterFirstDigit_X3_isWithin
theorem dX2_phaseAfterFirstDigit_0 : decode cX2_phaseAfterFirstDigit 0 = .ok (.iload_n 0, 1) := by decide +kernel
theorem dX2_phaseAfterFirstDigit_1 : decode cX2_phaseAfterFirstDigit 1 = .ok (.bipush 49, 2) := by decide +kernel
theorem dX2_phaseAfterFirstDigit_3 : decode cX2_phaseAfterFirstDigit 3 = .ok (.if_icmp .eq 9, 3) := by decide +kernel
theorem dX2_phaseAfterFirstDigit_6 : decode cX2_phaseAfterFirstDigit 6 = .ok (.iload_n 0, 1) := by decide +kernel
theorem dX2_phaseAfterFirstDigit_7 : decode cX2_phaseAfterFirstDigit 7 = .ok (.bipush 50, 2) := by decide +kernel
theorem dX2_phaseAfterFirstDigit_9 : decode cX2_phaseAfterFirstDigit 9 = .ok (.if_icmp .ne 5, 3) := by decide +kernel
theorem dX2_phaseAfterFirstDigit_12 : decode cX2_phaseAfterFirstDigit 12 = .ok (.iconst 4, 1) := by decide +kernel
theorem dX2_phaseAfterFirstDigit_13 : decode cX2_phaseAfterFirstDigit 13 = .ok (.ireturn, 1) := by decide +kernel
theorem dX2_phaseAfterFirstDigit_14 : decode cX2_phaseAfterFirstDigit 14 = .ok (.iload_n 0, 1) := by decide +kernel
theorem dX2_phaseAfterFirstDigit_15 : decode cX2_phaseAfterFirstDigit 15 = .ok (.bipush 51, 2) := by decide +kernel
theorem dX2_phaseAfterFirstDigit_17 : decode cX2_phaseAfterFirstDigit 17 = .ok (.if_icmp .ne 5, 3) := by decide +kernel
theorem dX2_phaseAfterFirstDigit_20 : decode cX2_phaseAfterFirstDigit 20 = .ok (.iconst 5, 1) := by decide +kernel
theorem dX2_phaseAfterFirstDigit_21 : decode cX2_phaseAfterFirstDigit 21 = .ok (.ireturn, 1) := by decide +kernel
theorem dX2_phaseAfterFirstDigit_22 : decode cX2_phaseAfterFirstDigit 22 = .ok (.iload_n 0, 1) := by decide +kernel
theorem dX2_phaseAfterFirstDigit_23 : decode cX2_phaseAfterFirstDigit 23 = .ok (.bipush 52, 2) := by decide +kernel
theorem dX2_phaseAfterFirstDigit_25 : decode cX2_phaseAfterFirstDigit 25 = .ok (.bipush 57, 2) := by decide +kernel
theorem dX2_phaseAfterFirstDigit_27 : decode cX2_phaseAfterFirstDigit 27 = .ok (.invokestatic 19, 3) := by decide +kernel
theorem dX2_phaseAfterFirstDigit_30 : decode cX2_phaseAfterFirstDigit 30 = .ok (.ifCond .eq 8, 3) := by decide +kernel
theorem dX2_phaseAfterFirstDigit_33 : decode cX2_phaseAfterFirstDigit 33 = .ok (.bipush 6, 2) := by decide +kernel
theorem dX2_phaseAfterFirstDigit_35 : decode cX2_phaseAfterFirstDigit 35 = .ok (.goto 4, 3) := by decide +kernel
theorem dX2_phaseAfterFirstDigit_38 : decode cX2_phaseAfterFirstDigit 38 = .ok (.iconst (-1), 1) := by decide +kernel
theorem dX2_phaseAfterFirstDigit_39 : decode cX2_phaseAfterFirstDigit 39 = .ok (.ireturn, 1) := by decide +kernel
set_option maxRecDepth 20000 in
theorem ggX2_phaseInCode_X2_isDigit : GoodIn wsX2_phaseInCode wsX2_isDigit := goodIn_r _ [4, 5, 6, 7] (by decide +kernel) (by decide +kernel)
set_option maxRecDepth 20000 in
theorem gX2_phaseInCode_X2_isDigit : GoodIn wsX2_phaseInCode (va_wsS RX2 39 yX2_isDigit wsX2_isDigit) := goodIn_app (goodIn_of _ (by decide +kernel)) ggX2_phaseInCode_X2_isDigit
theorem dX2_phaseInCode_0 : decode cX2_phaseInCode 0 = .ok (.iload_n 0, 1) := by decide +kernel
theorem dX2_phaseInCode_1 : decode cX2_phaseInCode 1 = .ok (.bipush 6, 2) := by decide +kernel
theorem dX2_phaseInCode_3 : decode cX2_phaseInCode 3 = .ok (.if_icmp .eq 10, 3) := by decide +kernel
theorem dX2_phaseInCode_6 : decode cX2_phaseInCode 6 = .ok (.iload_n 1, 1) := by decide +kernel
theorem dX2_phaseInCode_7 : decode cX2_phaseInCode 7 = .ok (.invokestatic 39, 3) := by decide +kernel
theorem dX2_phaseInCode_10 : decode cX2_phaseInCode 10 = .ok (.ifCond .ne 5, 3) := by decide +kernel
theorem dX2_phaseInCode_13 : decode cX2_phaseInCode 13 = .ok (.iconst (-1), 1) := by decide +kernel
theorem dX2_phaseInCode_14 : decode cX2_phaseInCode 14 = .ok (.ireturn, 1) := by decide +kernel
theorem dX2_phaseInCode_15 : decode cX2_phaseInCode 15 = .ok (.iload_n 0, 1) := by decide +kernel
theorem dX2_phaseInCode_16 : decode cX2_phaseInCode 16 = .ok (.bipush 13, 2) := by decide +kernel
theorem dX2_phaseInCode_18 : decode cX2_phaseInCode 18 = .ok (.if_icmp .ne 8, 3) := by decide +kernel
theorem dX2_phaseInCode_21 : decode cX2_phaseInCode 21 = .ok (.bipush 6, 2) := by decide +kernel
theorem dX2_phaseInCode_23 : decode cX2_phaseInCode 23 = .ok (.goto 6, 3) := by decide +kernel
theorem dX2_phaseInCode_26 : decode cX2_phaseInCode 26 = .ok (.iload_n 0, 1) := by decide +kernel
theorem dX2_phaseInCode_27 : decode cX2_phaseInCode 27 = .ok (.iconst 1, 1) := by decide +kernel
theorem dX2_phaseInCode_28 : decode cX2_phaseInCode 28 = .ok (.iadd, 1) := by decide +kernel
theorem dX2_phaseInCode_29 : decode cX2_phaseInCode 29 = .ok (.ireturn, 1) := by decide +kernel
set_option maxRecDepth 20000 in
theorem ggX2_isDigit_X3_isWithin : GoodIn wsX2_isDigit wsX3_isWithin := goodIn_r _ [3] (by decide +kernel) (by decide +kernel)
set_option maxRecDepth 20000 in
theorem gX2_isDigit_X3_isWithin_n19 : GoodIn wsX2_isDigit (wsX3_isWithin) := ggX2_isDigit_X3_isWithin
theorem dX2_isDigit_0 : decode cX2_isDigit 0 = .ok (.iload_n 0, 1) := by decide +kernel
theorem dX2_isDigit_1 : decode cX2_isDigit 1 = .ok (.bipush 48, 2) := by decide +kernel
theorem dX2_isDigit_3 : decode cX2_isDigit 3 = .ok (.bipush 57, 2) := by decide +kernel
theorem dX2_isDigit_5 : decode cX2_isDigit 5 = .ok (.invokestatic 19, 3) := by decide +kernel
theorem dX2_isDigit_8 : decode cX2_isDigit 8 = .ok (.ireturn, 1) := by decide +kernel
theorem dX2_sizeOf_0 : decode cX2_sizeOf 0 = .ok (.iload_n 0, 1) := by decide +kernel
theorem dX2_sizeOf_1 : decode cX2_sizeOf 1 = .ok (.lookupswitch 41 #[(108, 39), (109, 37), (115, 35)], 35) := by decide +kernel
theorem dX2_sizeOf_36 : decode cX2_sizeOf 36 = .ok (.iconst 0, 1) := by decide +kernel
theorem dX2_sizeOf_37 : decode cX2_sizeOf 37 = .ok (.ireturn, 1) := by decide +kernel
theorem dX2_sizeOf_38 : decode cX2_sizeOf 38 = .ok (.iconst 1, 1) := by decide +kernel
theorem dX2_sizeOf_39 : decode cX2_sizeOf 39 = .ok (.ireturn, 1) := by decide +kernel
theorem dX2_sizeOf_40 : decode cX2_sizeOf 40 = .ok (.iconst 2, 1) := by decide +kernel
theorem dX2_sizeOf_41 : decode cX2_sizeOf 41 = .ok (.ireturn, 1) := by decide +kernel
theorem dX2_sizeOf_42 : decode cX2_sizeOf 42 = .ok (.iconst (-1), 1) := by decide +kernel
theorem dX2_sizeOf_43 : decode cX2_sizeOf 43 = .ok (.ireturn, 1) := by decide +kernel
set_option maxRecDepth 20000 in
theorem ggX2_sizeAt_X2_signAt : GoodIn wsX2_sizeAt wsX2_signAt := goodIn_r _ [5, 6, 7, 8, 9, 10, 14, 15] (by decide +kernel) (by decide +kernel)
set_option maxRecDepth 20000 in
theorem gX2_sizeAt_X2_signAt : GoodIn wsX2_sizeAt (wsV RX2 23 RX2 yX2_signAt wsX2_signAt) := goodIn_app (goodIn_of _ (by decide +kernel)) ggX2_sizeAt_X2_signAt
set_option maxRecDepth 20000 in
theorem ggX2_sizeAt_X2_sizeOf : GoodIn wsX2_sizeAt wsX2_sizeOf := goodIn_r _ [13] (by decide +kernel) (by decide +kernel)
set_option maxRecDepth 20000 in
theorem gX2_sizeAt_X2_sizeOf : GoodIn wsX2_sizeAt (va_wsS RX2 43 yX2_sizeOf wsX2_sizeOf) := goodIn_app (goodIn_of _ (by decide +kernel)) ggX2_sizeAt_X2_sizeOf
theorem dX2_sizeAt_0 : decode cX2_sizeAt 0 = .ok (.aload_n 0, 1) := by decide +kernel
theorem dX2_sizeAt_1 : decode cX2_sizeAt 1 = .ok (.iload_n 1, 1) := by decide +kernel
theorem dX2_sizeAt_2 : decode cX2_sizeAt 2 = .ok (.invokevirtual 23, 3) := by decide +kernel
theorem dX2_sizeAt_5 : decode cX2_sizeAt 5 = .ok (.invokestatic 43, 3) := by decide +kernel
theorem dX2_sizeAt_8 : decode cX2_sizeAt 8 = .ok (.ireturn, 1) := by decide +kernel
set_option maxRecDepth 20000 in
theorem ggX2_numberAt_X2_signAt : GoodIn wsX2_numberAt wsX2_signAt := goodIn_r _ [5, 6, 7, 8, 9, 10, 11, 12] (by decide +kernel) (by decide +kernel)
set_option maxRecDepth 20000 in
theorem gX2_numberAt_X2_signAt : GoodIn wsX2_numberAt (wsV RX2 23 RX2 yX2_signAt wsX2_signAt) := goodIn_app (goodIn_of _ (by decide +kernel)) ggX2_numberAt_X2_signAt
theorem dX2_numberAt_0 : decode cX2_numberAt 0 = .ok (.iconst 0, 1) := by decide +kernel
theorem dX2_numberAt_1 : decode cX2_numberAt 1 = .ok (.istore_n 3, 1) := by decide +kernel
theorem dX2_numberAt_2 : decode cX2_numberAt 2 = .ok (.iload_n 1, 1) := by decide +kernel
theorem dX2_numberAt_3 : decode cX2_numberAt 3 = .ok (.istore 4, 2) := by decide +kernel
theorem dX2_numberAt_5 : decode cX2_numberAt 5 = .ok (.iload 4, 2) := by decide +kernel
theorem dX2_numberAt_7 : decode cX2_numberAt 7 = .ok (.iload_n 1, 1) := by decide +kernel
theorem dX2_numberAt_8 : decode cX2_numberAt 8 = .ok (.iload_n 2, 1) := by decide +kernel
theorem dX2_numberAt_9 : decode cX2_numberAt 9 = .ok (.iadd, 1) := by decide +kernel
theorem dX2_numberAt_10 : decode cX2_numberAt 10 = .ok (.if_icmp .ge 24, 3) := by decide +kernel
theorem dX2_numberAt_13 : decode cX2_numberAt 13 = .ok (.bipush 10, 2) := by decide +kernel
theorem dX2_numberAt_15 : decode cX2_numberAt 15 = .ok (.iload_n 3, 1) := by decide +kernel
theorem dX2_numberAt_16 : decode cX2_numberAt 16 = .ok (.imul, 1) := by decide +kernel
theorem dX2_numberAt_17 : decode cX2_numberAt 17 = .ok (.aload_n 0, 1) := by decide +kernel
theorem dX2_numberAt_18 : decode cX2_numberAt 18 = .ok (.iload 4, 2) := by decide +kernel
theorem dX2_numberAt_20 : decode cX2_numberAt 20 = .ok (.invokevirtual 23, 3) := by decide +kernel
theorem dX2_numberAt_23 : decode cX2_numberAt 23 = .ok (.iadd, 1) := by decide +kernel
theorem dX2_numberAt_24 : decode cX2_numberAt 24 = .ok (.bipush 48, 2) := by decide +kernel
theorem dX2_numberAt_26 : decode cX2_numberAt 26 = .ok (.isub, 1) := by decide +kernel
theorem dX2_numberAt_27 : decode cX2_numberAt 27 = .ok (.istore_n 3, 1) := by decide +kernel
theorem dX2_numberAt_28 : decode cX2_numberAt 28 = .ok (.iinc 4 1, 3) := by decide +kernel
theorem dX2_numberAt_31 : decode cX2_numberAt 31 = .ok (.goto (-26), 3) := by decide +kernel
theorem dX2_numberAt_34 : decode cX2_numberAt 34 = .ok (.iload_n 3, 1) := by decide +kernel
theorem dX2_numberAt_35 : decode cX2_numberAt 35 = .ok (.ireturn, 1) := by decide +kernel
set_option maxRecDepth 20000 in
theorem ggX2_isStartOfCommand_X2_signAt : GoodIn wsX2_isStartOfCommand wsX2_signAt := goodIn_r _ [5, 6, 7, 8, 9, 10, 11, 12] (by decide +kernel) (by decide +kernel)
set_option maxRecDepth 20000 in
theorem gX2_isStartOfCommand_X2_signAt : GoodIn wsX2_isStartOfCommand (wsV RX2 23 RX2 yX2_signAt wsX2_signAt) := goodIn_app (goodIn_of _ (by decide +kernel)) ggX2_isStartOfCommand_X2_signAt
theorem dX2_isStartOfCommand_0 : decode cX2_isStartOfCommand 0 = .ok (.iload_n 1, 1) := by decide +kernel
theorem dX2_isStartOfCommand_1 : decode cX2_isStartOfCommand 1 = .ok (.ifCond .eq 15, 3) := by decide +kernel
theorem dX2_isStartOfCommand_4 : decode cX2_isStartOfCommand 4 = .ok (.aload_n 0, 1) := by decide +kernel
theorem dX2_isStartOfCommand_5 : decode cX2_isStartOfCommand 5 = .ok (.iload_n 1, 1) := by decide +kernel
theorem dX2_isStartOfCommand_6 : decode cX2_isStartOfCommand 6 = .ok (.iconst 1, 1) := by decide +kernel
theorem dX2_isStartOfCommand_7 : decode cX2_isStartOfCommand 7 = .ok (.isub, 1) := by decide +kernel
theorem dX2_isStartOfCommand_8 : decode cX2_isStartOfCommand 8 = .ok (.invokevirtual 23, 3) := by decide +kernel
theorem dX2_isStartOfCommand_11 : decode cX2_isStartOfCommand 11 = .ok (.bipush 59, 2) := by decide +kernel
theorem dX2_isStartOfCommand_13 : decode cX2_isStartOfCommand 13 = .ok (.if_icmp .ne 7, 3) := by decide +kernel
theorem dX2_isStartOfCommand_16 : decode cX2_isStartOfCommand 16 = .ok (.iconst 1, 1) := by decide +kernel
theorem dX2_isStartOfCommand_17 : decode cX2_isStartOfCommand 17 = .ok (.goto 4, 3) := by decide +kernel
theorem dX2_isStartOfCommand_20 : decode cX2_isStartOfCommand 20 = .ok (.iconst 0, 1) := by decide +kernel
theorem dX2_isStartOfCommand_21 : decode cX2_isStartOfCommand 21 = .ok (.ireturn, 1) := by decide +kernel
set_option maxRecDepth 20000 in
theorem ggX2_endOfCommand_X2_signAt : GoodIn wsX2_endOfCommand wsX2_signAt := goodIn_r _ [6, 1, 7, 8, 9, 10, 11, 12] (by decide +kernel) (by decide +kernel)
set_option maxRecDepth 20000 in
theorem gX2_endOfCommand_X2_signAt : GoodIn wsX2_endOfCommand (wsV RX2 23 RX2 yX2_signAt wsX2_signAt) := goodIn_app (goodIn_of _ (by decide +kernel)) ggX2_endOfCommand_X2_signAt
theorem dX2_endOfCommand_0 : decode cX2_endOfCommand 0 = .ok (.iload_n 1, 1) := by decide +kernel
theorem dX2_endOfCommand_1 : decode cX2_endOfCommand 1 = .ok (.istore_n 2, 1) := by decide +kernel
theorem dX2_endOfCommand_2 : decode cX2_endOfCommand 2 = .ok (.iload_n 2, 1) := by decide +kernel
theorem dX2_endOfCommand_3 : decode cX2_endOfCommand 3 = .ok (.aload_n 0, 1) := by decide +kernel
theorem dX2_endOfCommand_4 : decode cX2_endOfCommand 4 = .ok (.getfield 15, 3) := by decide +kernel
theorem dX2_endOfCommand_7 : decode cX2_endOfCommand 7 = .ok (.if_icmp .ge 19, 3) := by decide +kernel
theorem dX2_endOfCommand_10 : decode cX2_endOfCommand 10 = .ok (.aload_n 0, 1) := by decide +kernel
theorem dX2_endOfCommand_11 : decode cX2_endOfCommand 11 = .ok (.iload_n 2, 1) := by decide +kernel
theorem dX2_endOfCommand_12 : decode cX2_endOfCommand 12 = .ok (.invokevirtual 23, 3) := by decide +kernel
theorem dX2_endOfCommand_15 : decode cX2_endOfCommand 15 = .ok (.bipush 59, 2) := by decide +kernel
theorem dX2_endOfCommand_17 : decode cX2_endOfCommand 17 = .ok (.if_icmp .eq 9, 3) := by decide +kernel
theorem dX2_endOfCommand_20 : decode cX2_endOfCommand 20 = .ok (.iinc 2 1, 3) := by decide +kernel
theorem dX2_endOfCommand_23 : decode cX2_endOfCommand 23 = .ok (.goto (-21), 3) := by decide +kernel
theorem dX2_endOfCommand_26 : decode cX2_endOfCommand 26 = .ok (.iload_n 2, 1) := by decide +kernel
theorem dX2_endOfCommand_27 : decode cX2_endOfCommand 27 = .ok (.ireturn, 1) := by decide +kernel
set_option maxRecDepth 20000 in
theorem ggX3_init_X1_init : GoodIn wsX3_init wsX1_init := goodIn_r _ [23, 24, 2, 3, 25, 26, 27, 28, 29, 30, 31, 32, 33, 34, 35, 36, 37, 38, 39, 40, 41, 42, 43, 56, 57, 58, 59, 60, 61, 62, 63, 64, 65, 66, 67, 68, 69] (by decide +kernel) (by decide +kernel)
set_option maxRecDepth 20000 in
theorem gX3_init_X1_init : GoodIn wsX3_init (wsX1_init) := ggX3_init_X1_init
set_option maxRecDepth 20000 in
theorem ggX3_init_X0_init : GoodIn wsX3_init wsX0_init := goodIn_r _ [46, 47, 2, 3, 48, 49, 5, 6, 50, 22, 23, 24, 25, 26, 27, 28, 29, 30, 31, 32, 33, 34, 35, 36, 37, 38, 39, 40, 41, 42, 43, 78, 79, 80, 56, 57, 58, 59, 60, 61, 62, 63, 64, 65, 66, 67, 68, 69] (by decide +kernel) (by decide +kernel)
set_option maxRecDepth 20000 in
theorem gX3_init_X0_init : GoodIn wsX3_init (wsX0_init) := ggX3_init_X0_init
set_option maxRecDepth 20000 in
theorem ggX3_init_X2_init : GoodIn wsX3_init wsX2_init := goodIn_r _ [52, 53, 2, 3, 54, 55, 81, 82] (by decide +kernel) (by decide +kernel)
set_option maxRecDepth 20000 in
theorem gX3_init_X2_init_n31 : GoodIn wsX3_init (wsX2_init) := ggX3_init_X2_init
theorem dX3_init_0 : decode cX3_init 0 = .ok (.aload_n 0, 1) := by decide +kernel
theorem dX3_init_1 : decode cX3_init 1 = .ok (.invokespecial 3, 3) := by decide +kernel
theorem dX3_init_4 : decode cX3_init 4 = .ok (.aload_n 0, 1) := by decide +kernel
theorem dX3_init_5 : decode cX3_init 5 = .ok (.new 9, 3) := by decide +kernel
theorem dX3_init_8 : decode cX3_init 8 = .ok (.dup, 1) := by decide +kernel
theorem dX3_init_9 : decode cX3_init 9 = .ok (.invokespecial 11, 3) := by decide +kernel
theorem dX3_init_12 : decode cX3_init 12 = .ok (.putfield 12, 3) := by decide +kernel
theorem dX3_init_15 : decode cX3_init 15 = .ok (.aload_n 0, 1) := by decide +kernel
theorem dX3_init_16 : decode cX3_init 16 = .ok (.new 9, 3) := by decide +kernel
theorem dX3_init_19 : decode cX3_init 19 = .ok (.dup, 1) := by decide +kernel
theorem dX3_init_20 : decode cX3_init 20 = .ok (.invokespecial 11, 3) := by decide +kernel
theorem dX3_init_23 : decode cX3_init 23 = .ok (.putfield 16, 3) := by decide +kernel
theorem dX3_init_26 : decode cX3_init 26 = .ok (.aload_n 0, 1) := by decide +kernel
theorem dX3_init_27 : decode cX3_init 27 = .ok (.new 9, 3) := by decide +kernel
theorem dX3_init_30 : decode cX3_init 30 = .ok (.dup, 1) := by decide +kernel
theorem dX3_init_31 : decode cX3_init 31 = .ok (.invokespecial 11, 3) := by decide +kernel
theorem dX3_init_34 : decode cX3_init 34 = .ok (.putfield 19, 3) := by decide +kernel
theorem dX3_init_37 : decode cX3_init 37 = .ok (.aload_n 0, 1) := by decide +kernel
theorem dX3_init_38 : decode cX3_init 38 = .ok (.new 22, 3) := by decide +kernel
theorem dX3_init_41 : decode cX3_init 41 = .ok (.dup, 1) := by decide +kernel
theorem dX3_init_42 : decode cX3_init 42 = .ok (.invokespecial 24, 3) := by decide +kernel
theorem dX3_init_45 : decode cX3_init 45 = .ok (.putfield 25, 3) := by decide +kernel
theorem dX3_init_48 : decode cX3_init 48 = .ok (.aload_n 0, 1) := by decide +kernel
theorem dX3_init_49 : decode cX3_init 49 = .ok (.new 29, 3) := by decide +kernel
theorem dX3_init_52 : decode cX3_init 52 = .ok (.dup, 1) := by decide +kernel
theorem dX3_init_53 : decode cX3_init 53 = .ok (.invokespecial 31, 3) := by decide +kernel
theorem dX3_init_56 : decode cX3_init 56 = .ok (.putfield 32, 3) := by decide +kernel
theorem dX3_init_59 : decode cX3_init 59 = .ok (.aload_n 0, 1) := by decide +kernel
theorem dX3_init_60 : decode cX3_init 60 = .ok (.iconst 0, 1) := by decide +kernel
theorem dX3_init_61 : decode cX3_init 61 = .ok (.putfield 36, 3) := by decide +kernel
theorem dX3_init_64 : decode cX3_init 64 = .ok (.aload_n 0, 1) := by decide +kernel
theorem dX3_init_65 : decode cX3_init 65 = .ok (.bipush (-6), 2) := by decide +kernel
theorem dX3_init_67 : decode cX3_init 67 = .ok (.putfield 40, 3) := by decide +kernel
theorem dX3_init_70 : decode cX3_init 70 = .ok (.aload_n 0, 1) := by decide +kernel
theorem dX3_init_71 : decode cX3_init 71 = .ok (.bipush (-6), 2) := by decide +kernel
theorem dX3_init_73 : decode cX3_init 73 = .ok (.putfield 44, 3) := by decide +kernel
theorem dX3_init_76 : decode cX3_init 76 = .ok (.return_, 1) := by decide +kernel
set_option maxRecDepth 20000 in
theorem ggX3_set_X0_prepare : GoodIn wsX3_set wsX0_prepare := goodIn_r _ [7, 8, 9, 10, 11, 12, 13, 14, 15, 16, 17, 18, 19, 20, 21, 22, 23, 24, 25, 26, 27, 28, 29, 30, 31, 32, 33, 64, 65, 66, 67, 68, 69, 70, 71, 72, 73, 74, 75, 76, 77, 78, 79, 80] (by decide +kernel) (by decide +kernel)
set_option maxRecDepth 20000 in
theorem gX3_set_X0_prepare : GoodIn wsX3_set (wsV RX3 47 RX0 yX0_prepare wsX0_prepare) := goodIn_app (goodIn_of _ (by decide +kernel)) ggX3_set_X0_prepare
set_option maxRecDepth 20000 in
theorem ggX3_set_X3_changeSetting : GoodIn wsX3_set wsX3_changeSetting := goodIn_r _ [38, 39, 40, 2, 41, 42, 43, 37, 44, 56, 57, 58, 59, 60, 61, 62, 63, 67, 68, 69, 70, 71, 72, 73, 74, 75, 76, 77, 78, 79, 80] (by decide +kernel) (by decide +kernel)
set_option maxRecDepth 20000 in
theorem gX3_set_X3_changeSetting : GoodIn wsX3_set (wsV RX3 51 RX3 yX3_changeSetting wsX3_changeSetting) := goodIn_app (goodIn_of _ (by decide +kernel)) ggX3_set_X3_changeSetting
set_option maxRecDepth 20000 in
theorem ggX3_set_X3_recorded : GoodIn wsX3_set wsX3_recorded := goodIn_r _ [48, 1, 49, 50, 37, 51, 42, 43, 44, 52, 53, 54, 6, 55, 10, 9, 56, 57, 58, 59, 60, 61, 62, 63, 64, 65, 66] (by decide +kernel) (by decide +kernel)
set_option maxRecDepth 20000 in
theorem gX3_set_X3_recorded : GoodIn wsX3_set (wsV RX3 55 RX3 yX3_recorded wsX3_recorded) := goodIn_app (goodIn_of _ (by decide +kernel)) ggX3_set_X3_recorded
theorem dX3_set_0 : decode cX3_set 0 = .ok (.aload_n 0, 1) := by decide +kernel
theorem dX3_set_1 : decode cX3_set 1 = .ok (.getfield 25, 3) := by decide +kernel
theorem dX3_set_4 : decode cX3_set 4 = .ok (.aload_n 0, 1) := by decide +kernel
theorem dX3_set_5 : decode cX3_set 5 = .ok (.getfield 12, 3) := by decide +kernel
theorem dX3_set_8 : decode cX3_set 8 = .ok (.invokevirtual 47, 3) := by decide +kernel
theorem dX3_set_11 : decode cX3_set 11 = .ok (.aload_n 0, 1) := by decide +kernel
theorem dX3_set_12 : decode cX3_set 12 = .ok (.aload_n 0, 1) := by decide +kernel
theorem dX3_set_13 : decode cX3_set 13 = .ok (.iload_n 1, 1) := by decide +kernel
theorem dX3_set_14 : decode cX3_set 14 = .ok (.iload_n 2, 1) := by decide +kernel
theorem dX3_set_15 : decode cX3_set 15 = .ok (.invokevirtual 51, 3) := by decide +kernel
theorem dX3_set_18 : decode cX3_set 18 = .ok (.invokevirtual 55, 3) := by decide +kernel
theorem dX3_set_21 : decode cX3_set 21 = .ok (.ireturn, 1) := by decide +kernel
set_option maxRecDepth 20000 in
theorem ggX3_setting_X3_isWithin : GoodIn wsX3_setting wsX3_isWithin := goodIn_r _ [6] (by decide +kernel) (by decide +kernel)
set_option maxRecDepth 20000 in
theorem gX3_setting_X3_isWithin : GoodIn wsX3_setting (va_wsS RX3 59 yX3_isWithin wsX3_isWithin) := goodIn_app (goodIn_of _ (by decide +kernel)) ggX3_setting_X3_isWithin
theorem dX3_setting_0 : decode cX3_setting 0 = .ok (.iload_n 1, 1) := by decide +kernel
theorem dX3_setting_1 : decode cX3_setting 1 = .ok (.iconst 0, 1) := by decide +kernel
theorem dX3_setting_2 : decode cX3_setting 2 = .ok (.iconst 4, 1) := by decide +kernel
theorem dX3_setting_3 : decode cX3_setting 3 = .ok (.invokestatic 59, 3) := by decide +kernel
theorem dX3_setting_6 : decode cX3_setting 6 = .ok (.ifCond .ne 6, 3) := by decide +kernel
theorem dX3_setting_9 : decode cX3_setting 9 = .ok (.bipush (-2), 2) := by decide +kernel
theorem dX3_setting_11 : decode cX3_setting 11 = .ok (.ireturn, 1) := by decide +kernel
theorem dX3_setting_12 : decode cX3_setting 12 = .ok (.aload_n 0, 1) := by decide +kernel
theorem dX3_setting_13 : decode cX3_setting 13 = .ok (.getfield 12, 3) := by decide +kernel
theorem dX3_setting_16 : decode cX3_setting 16 = .ok (.getfield 63, 3) := by decide +kernel
theorem dX3_setting_19 : decode cX3_setting 19 = .ok (.iload_n 1, 1) := by decide +kernel
theorem dX3_setting_20 : decode cX3_setting 20 = .ok (.iaload, 1) := by decide +kernel
theorem dX3_setting_21 : decode cX3_setting 21 = .ok (.ireturn, 1) := by decide +kernel
set_option maxRecDepth 20000 in
theorem ggX3_come_X0_prepare : GoodIn wsX3_come wsX0_prepare := goodIn_r _ [7, 8, 9, 10, 11, 12, 13, 14, 15, 16, 17, 18, 19, 20, 21, 22, 23, 24, 25, 26, 27, 28, 29, 30, 31, 32, 33, 113, 114, 115, 116, 117, 118, 119, 120, 121, 122, 123, 124, 125, 126, 127, 128, 129] (by decide +kernel) (by decide +kernel)
set_option maxRecDepth 20000 in
theorem gX3_come_X0_prepare : GoodIn wsX3_come (wsV RX3 47 RX0 yX0_prepare wsX0_prepare) := goodIn_app (goodIn_of _ (by decide +kernel)) ggX3_come_X0_prepare
set_option maxRecDepth 20000 in
theorem ggX3_come_X3_letCome : GoodIn wsX3_come wsX3_letCome := goodIn_r _ [38, 2, 39, 40, 41, 42, 37, 43, 44, 45, 46, 47, 48, 49, 14, 50, 51, 52, 53, 54, 25, 55, 56, 57, 58, 16, 59, 60, 61, 62, 63, 64, 65, 66, 29, 20, 67, 68, 69, 70, 71, 72, 73, 74, 75, 76, 77, 78, 79, 80, 81, 82, 83, 84, 26, 27, 28, 85, 86, 87, 88, 89, 90, 91, 92, 93, 105, 106, 107, 108, 109, 110, 111, 112, 116, 117, 118, 119, 120, 121, 122, 123, 124, 125, 126, 127, 128, 129] (by decide +kernel) (by decide +kernel)
set_option maxRecDepth 20000 in
theorem gX3_come_X3_letCome : GoodIn wsX3_come (wsV RX3 67 RX3 yX3_letCome wsX3_letCome) := goodIn_app (goodIn_of _ (by decide +kernel)) ggX3_come_X3_letCome
set_option maxRecDepth 20000 in
theorem ggX3_come_X3_recorded : GoodIn wsX3_come wsX3_recorded := goodIn_r _ [97, 1, 98, 99, 37, 100, 41, 42, 43, 101, 102, 103, 6, 104, 10, 9, 105, 106, 107, 108, 109, 110, 111, 112, 113, 114, 115] (by decide +kernel) (by decide +kernel)
set_option maxRecDepth 20000 in
theorem gX3_come_X3_recorded : GoodIn wsX3_come (wsV RX3 55 RX3 yX3_recorded wsX3_recorded) := goodIn_app (goodIn_of _ (by decide +kernel)) ggX3_come_X3_recorded
theorem dX3_come_0 : decode cX3_come 0 = .ok (.aload_n 0, 1) := by decide +kernel
theorem dX3_come_1 : decode cX3_come 1 = .ok (.getfield 25, 3) := by decide +kernel
theorem dX3_come_4 : decode cX3_come 4 = .ok (.aload_n 0, 1) := by decide +kernel
theorem dX3_come_5 : decode cX3_come 5 = .ok (.getfield 12, 3) := by decide +kernel
theorem dX3_come_8 : decode cX3_come 8 = .ok (.invokevirtual 47, 3) := by decide +kernel
theorem dX3_come_11 : decode cX3_come 11 = .ok (.aload_n 0, 1) := by decide +kernel
theorem dX3_come_12 : decode cX3_come 12 = .ok (.aload_n 0, 1) := by decide +kernel
theorem dX3_come_13 : decode cX3_come 13 = .ok (.iload_n 1, 1) := by decide +kernel
theorem dX3_come_14 : decode cX3_come 14 = .ok (.iload_n 2, 1) := by decide +kernel
theorem dX3_come_15 : decode cX3_come 15 = .ok (.invokevirtual 67, 3) := by decide +kernel
theorem dX3_come_18 : decode cX3_come 18 = .ok (.invokevirtual 55, 3) := by decide +kernel
theorem dX3_come_21 : decode cX3_come 21 = .ok (.ireturn, 1) := by decide +kernel
set_option maxRecDepth 20000 in
theorem ggX3_fetch_X0_prepare : GoodIn wsX3_fetch wsX0_prepare := goodIn_r _ [7, 8, 9, 10, 11, 12, 13, 14, 15, 16, 17, 18, 19, 20, 21, 22, 23, 24, 25, 26, 27, 28, 29, 30, 31, 32, 33, 102, 103, 104, 105, 106, 107, 108, 109, 110, 111, 112, 113, 114, 115, 116, 117, 118] (by decide +kernel) (by decide +kernel)
set_option maxRecDepth 20000 in
theorem gX3_fetch_X0_prepare : GoodIn wsX3_fetch (wsV RX3 47 RX0 yX0_prepare wsX0_prepare) := goodIn_app (goodIn_of _ (by decide +kernel)) ggX3_fetch_X0_prepare
set_option maxRecDepth 20000 in
theorem ggX3_fetch_X3_letFetch : GoodIn wsX3_fetch wsX3_letFetch := goodIn_r _ [38, 2, 39, 40, 41, 42, 43, 44, 37, 45, 46, 47, 48, 14, 49, 17, 50, 51, 52, 53, 54, 55, 56, 57, 58, 59, 25, 60, 61, 62, 63, 64, 65, 66, 67, 68, 69, 70, 71, 72, 73, 74, 16, 28, 20, 75, 76, 77, 78, 27, 79, 80, 81, 82, 29, 94, 95, 96, 97, 98, 99, 100, 101, 105, 106, 107, 108, 109, 110, 111, 112, 113, 114, 115, 116, 117, 118] (by decide +kernel) (by decide +kernel)
set_option maxRecDepth 20000 in
theorem gX3_fetch_X3_letFetch : GoodIn wsX3_fetch (wsV RX3 70 RX3 yX3_letFetch wsX3_letFetch) := goodIn_app (goodIn_of _ (by decide +kernel)) ggX3_fetch_X3_letFetch
set_option maxRecDepth 20000 in
theorem ggX3_fetch_X3_recorded : GoodIn wsX3_fetch wsX3_recorded := goodIn_r _ [86, 1, 87, 88, 37, 89, 43, 44, 45, 90, 91, 92, 6, 93, 10, 9, 94, 95, 96, 97, 98, 99, 100, 101, 102, 103, 104] (by decide +kernel) (by decide +kernel)
set_option maxRecDepth 20000 in
theorem gX3_fetch_X3_recorded : GoodIn wsX3_fetch (wsV RX3 55 RX3 yX3_recorded wsX3_recorded) := goodIn_app (goodIn_of _ (by decide +kernel)) ggX3_fetch_X3_recorded
theorem dX3_fetch_0 : decode cX3_fetch 0 = .ok (.aload_n 0, 1) := by decide +kernel
theorem dX3_fetch_1 : decode cX3_fetch 1 = .ok (.getfield 25, 3) := by decide +kernel
theorem dX3_fetch_4 : decode cX3_fetch 4 = .ok (.aload_n 0, 1) := by decide +kernel
theorem dX3_fetch_5 : decode cX3_fetch 5 = .ok (.getfield 12, 3) := by decide +kernel
theorem dX3_fetch_8 : decode cX3_fetch 8 = .ok (.invokevirtual 47, 3) := by decide +kernel
theorem dX3_fetch_11 : decode cX3_fetch 11 = .ok (.aload_n 0, 1) := by decide +kernel
theorem dX3_fetch_12 : decode cX3_fetch 12 = .ok (.aload_n 0, 1) := by decide +kernel
theorem dX3_fetch_13 : decode cX3_fetch 13 = .ok (.iload_n 1, 1) := by decide +kernel
theorem dX3_fetch_14 : decode cX3_fetch 14 = .ok (.invokevirtual 70, 3) := by decide +kernel
theorem dX3_fetch_17 : decode cX3_fetch 17 = .ok (.invokevirtual 55, 3) := by decide +kernel
theorem dX3_fetch_20 : decode cX3_fetch 20 = .ok (.ireturn, 1) := by decide +kernel
set_option maxRecDepth 20000 in
theorem ggX3_refuse_X0_prepare : GoodIn wsX3_refuse wsX0_prepare := goodIn_r _ [7, 8, 9, 10, 11, 12, 13, 14, 15, 16, 17, 18, 19, 20, 21, 22, 23, 24, 25, 26, 27, 28, 29, 30, 31, 32, 33, 97, 98, 99, 100, 101, 102, 103, 104, 105, 106, 107, 108, 109, 110, 111, 112, 113] (by decide +kernel) (by decide +kernel)
set_option maxRecDepth 20000 in
theorem gX3_refuse_X0_prepare : GoodIn wsX3_refuse (wsV RX3 47 RX0 yX0_prepare wsX0_prepare) := goodIn_app (goodIn_of _ (by decide +kernel)) ggX3_refuse_X0_prepare
set_option maxRecDepth 20000 in
theorem ggX3_refuse_X3_letRefuse : GoodIn wsX3_refuse wsX3_letRefuse := goodIn_r _ [38, 2, 39, 40, 41, 42, 43, 14, 44, 25, 45, 37, 46, 47, 48, 49, 50, 51, 52, 53, 54, 55, 56, 57, 58, 59, 60, 61, 62, 63, 64, 65, 66, 67, 29, 16, 20, 68, 69, 70, 71, 72, 73, 74, 75, 76, 77, 89, 90, 91, 92, 93, 94, 95, 96, 100, 101, 102, 103, 104, 105, 106, 107, 108, 109, 110, 111, 112, 113] (by decide +kernel) (by decide +kernel)
set_option maxRecDepth 20000 in
theorem gX3_refuse_X3_letRefuse : GoodIn wsX3_refuse (wsV RX3 73 RX3 yX3_letRefuse wsX3_letRefuse) := goodIn_app (goodIn_of _ (by decide +kernel)) ggX3_refuse_X3_letRefuse
set_option maxRecDepth 20000 in
theorem ggX3_refuse_X3_recorded : GoodIn wsX3_refuse wsX3_recorded := goodIn_r _ [81, 1, 82, 83, 37, 84, 47, 48, 49, 85, 86, 87, 6, 88, 10, 9, 89, 90, 91, 92, 93, 94, 95, 96, 97, 98, 99] (by decide +kernel) (by decide +kernel)
set_option maxRecDepth 20000 in
theorem gX3_refuse_X3_recorded : GoodIn wsX3_refuse (wsV RX3 55 RX3 yX3_recorded wsX3_recorded) := goodIn_app (goodIn_of _ (by decide +kernel)) ggX3_refuse_X3_recorded
theorem dX3_refuse_0 : decode cX3_refuse 0 = .ok (.aload_n 0, 1) := by decide +kernel
theorem dX3_refuse_1 : decode cX3_refuse 1 = .ok (.getfield 25, 3) := by decide +kernel
theorem dX3_refuse_4 : decode cX3_refuse 4 = .ok (.aload_n 0, 1) := by decide +kernel
theorem dX3_refuse_5 : decode cX3_refuse 5 = .ok (.getfield 12, 3) := by decide +kernel
theorem dX3_refuse_8 : decode cX3_refuse 8 = .ok (.invokevirtual 47, 3) := by decide +kernel
theorem dX3_refuse_11 : decode cX3_refuse 11 = .ok (.aload_n 0, 1) := by decide +kernel
theorem dX3_refuse_12 : decode cX3_refuse 12 = .ok (.aload_n 0, 1) := by decide +kernel
theorem dX3_refuse_13 : decode cX3_refuse 13 = .ok (.iload_n 1, 1) := by decide +kernel
theorem dX3_refuse_14 : decode cX3_refuse 14 = .ok (.invokevirtual 73, 3) := by decide +kernel
theorem dX3_refuse_17 : decode cX3_refuse 17 = .ok (.invokevirtual 55, 3) := by decide +kernel
theorem dX3_refuse_20 : decode cX3_refuse 20 = .ok (.ireturn, 1) := by decide +kernel
set_option maxRecDepth 20000 in
theorem ggX3_move_X0_prepare : GoodIn wsX3_move wsX0_prepare := goodIn_r _ [7, 8, 9, 10, 11, 12, 13, 14, 15, 16, 17, 18, 19, 20, 21, 22, 23, 24, 25, 26, 27, 28, 29, 30, 31, 32, 33, 134, 135, 136, 137, 138, 139, 140, 141, 142, 143, 144, 145, 146, 147, 148, 149, 150] (by decide +kernel) (by decide +kernel)
set_option maxRecDepth 20000 in
theorem gX3_move_X0_prepare : GoodIn wsX3_move (wsV RX3 47 RX0 yX0_prepare wsX0_prepare) := goodIn_app (goodIn_of _ (by decide +kernel)) ggX3_move_X0_prepare
set_option maxRecDepth 20000 in
theorem ggX3_move_X3_moveParcel : GoodIn wsX3_move wsX3_moveParcel := goodIn_r _ [38, 2, 39, 40, 41, 42, 43, 44, 14, 45, 25, 46, 37, 47, 48, 49, 50, 51, 52, 53, 54, 55, 56, 57, 58, 59, 60, 61, 62, 63, 64, 65, 66, 67, 68, 29, 16, 20, 69, 70, 71, 72, 73, 74, 75, 76, 77, 78, 79, 80, 81, 82, 83, 84, 85, 86, 87, 88, 89, 90, 91, 92, 93, 94, 95, 96, 97, 98, 99, 100, 101, 102, 103, 104, 26, 27, 28, 105, 106, 107, 108, 109, 110, 111, 112, 113, 114, 126, 127, 128, 129, 130, 131, 132, 133, 137, 138, 139, 140, 141, 142, 143, 144, 145, 146, 147, 148, 149, 150] (by decide +kernel) (by decide +kernel)
set_option maxRecDepth 20000 in
theorem gX3_move_X3_moveParcel : GoodIn wsX3_move (wsV RX3 76 RX3 yX3_moveParcel wsX3_moveParcel) := goodIn_app (goodIn_of _ (by decide +kernel)) ggX3_move_X3_moveParcel
set_option maxRecDepth 20000 in
theorem ggX3_move_X3_recorded : GoodIn wsX3_move wsX3_recorded := goodIn_r _ [118, 1, 119, 120, 37, 121, 48, 49, 50, 122, 123, 124, 6, 125, 10, 9, 126, 127, 128, 129, 130, 131, 132, 133, 134, 135, 136] (by decide +kernel) (by decide +kernel)
set_option maxRecDepth 20000 in
theorem gX3_move_X3_recorded : GoodIn wsX3_move (wsV RX3 55 RX3 yX3_recorded wsX3_recorded) := goodIn_app (goodIn_of _ (by decide +kernel)) ggX3_move_X3_recorded
theorem dX3_move_0 : decode cX3_move 0 = .ok (.aload_n 0, 1) := by decide +kernel
theorem dX3_move_1 : decode cX3_move 1 = .ok (.getfield 25, 3) := by decide +kernel
theorem dX3_move_4 : decode cX3_move 4 = .ok (.aload_n 0, 1) := by decide +kernel
theorem dX3_move_5 : decode cX3_move 5 = .ok (.getfield 12, 3) := by decide +kernel
theorem dX3_move_8 : decode cX3_move 8 = .ok (.invokevirtual 47, 3) := by decide +kernel
theorem dX3_move_11 : decode cX3_move 11 = .ok (.aload_n 0, 1) := by decide +kernel
theorem dX3_move_12 : decode cX3_move 12 = .ok (.aload_n 0, 1) := by decide +kernel
theorem dX3_move_13 : decode cX3_move 13 = .ok (.iload_n 1, 1) := by decide +kernel
theorem dX3_move_14 : decode cX3_move 14 = .ok (.iload_n 2, 1) := by decide +kernel
theorem dX3_move_15 : decode cX3_move 15 = .ok (.invokevirtual 76, 3) := by decide +kernel
theorem dX3_move_18 : decode cX3_move 18 = .ok (.invokevirtual 55, 3) := by decide +kernel
theorem dX3_move_21 : decode cX3_move 21 = .ok (.ireturn, 1) := by decide +kernel
set_option maxRecDepth 20000 in
theorem ggX3_pass_X0_prepare : GoodIn wsX3_pass wsX0_prepare := goodIn_r _ [7, 8, 9, 10, 11, 12, 13, 14, 15, 16, 17, 18, 19, 20, 21, 22, 23, 24, 25, 26, 27, 28, 29, 30, 31, 32, 33, 88, 89, 90, 91, 92, 93, 94, 95, 96, 97, 98, 99, 100, 101, 102, 103, 104] (by decide +kernel) (by decide +kernel)
set_option maxRecDepth 20000 in
theorem gX3_pass_X0_prepare : GoodIn wsX3_pass (wsV RX3 47 RX0 yX0_prepare wsX0_prepare) := goodIn_app (goodIn_of _ (by decide +kernel)) ggX3_pass_X0_prepare
set_option maxRecDepth 20000 in
theorem ggX3_pass_X3_letPass : GoodIn wsX3_pass wsX3_letPass := goodIn_r _ [38, 2, 39, 40, 41, 37, 42, 43, 44, 45, 14, 46, 16, 17, 47, 48, 49, 50, 30, 20, 51, 52, 53, 54, 31, 33, 55, 56, 57, 58, 26, 59, 60, 61, 62, 25, 28, 63, 64, 65, 66, 29, 67, 68, 80, 81, 82, 83, 84, 85, 86, 87, 91, 92, 93, 94, 95, 96, 97, 98, 99, 100, 101, 102, 103, 104] (by decide +kernel) (by decide +kernel)
set_option maxRecDepth 20000 in
theorem gX3_pass_X3_letPass : GoodIn wsX3_pass (wsV RX3 79 RX3 yX3_letPass wsX3_letPass) := goodIn_app (goodIn_of _ (by decide +kernel)) ggX3_pass_X3_letPass
set_option maxRecDepth 20000 in
theorem ggX3_pass_X3_recorded : GoodIn wsX3_pass wsX3_recorded := goodIn_r _ [72, 1, 73, 74, 37, 75, 40, 41, 42, 76, 77, 78, 6, 79, 10, 9, 80, 81, 82, 83, 84, 85, 86, 87, 88, 89, 90] (by decide +kernel) (by decide +kernel)
set_option maxRecDepth 20000 in
theorem gX3_pass_X3_recorded : GoodIn wsX3_pass (wsV RX3 55 RX3 yX3_recorded wsX3_recorded) := goodIn_app (goodIn_of _ (by decide +kernel)) ggX3_pass_X3_recorded
theorem dX3_pass_0 : decode cX3_pass 0 = .ok (.aload_n 0, 1) := by decide +kernel
theorem dX3_pass_1 : decode cX3_pass 1 = .ok (.getfield 25, 3) := by decide +kernel
theorem dX3_pass_4 : decode cX3_pass 4 = .ok (.aload_n 0, 1) := by decide +kernel
theorem dX3_pass_5 : decode cX3_pass 5 = .ok (.getfield 12, 3) := by decide +kernel
theorem dX3_pass_8 : decode cX3_pass 8 = .ok (.invokevirtual 47, 3) := by decide +kernel
theorem dX3_pass_11 : decode cX3_pass 11 = .ok (.aload_n 0, 1) := by decide +kernel
theorem dX3_pass_12 : decode cX3_pass 12 = .ok (.aload_n 0, 1) := by decide +kernel
theorem dX3_pass_13 : decode cX3_pass 13 = .ok (.iload_n 1, 1) := by decide +kernel
theorem dX3_pass_14 : decode cX3_pass 14 = .ok (.invokevirtual 79, 3) := by decide +kernel
theorem dX3_pass_17 : decode cX3_pass 17 = .ok (.invokevirtual 55, 3) := by decide +kernel
theorem dX3_pass_20 : decode cX3_pass 20 = .ok (.ireturn, 1) := by decide +kernel
set_option maxRecDepth 20000 in
theorem ggX3_call_X0_prepare : GoodIn wsX3_call wsX0_prepare := goodIn_r _ [7, 8, 9, 10, 11, 12, 13, 14, 15, 16, 17, 18, 19, 20, 21, 22, 23, 24, 25, 26, 27, 28, 29, 30, 31, 32, 33, 66, 67, 68, 69, 70, 71, 72, 73, 74, 75, 76, 77, 78, 79, 80, 81, 82] (by decide +kernel) (by decide +kernel)
set_option maxRecDepth 20000 in
theorem gX3_call_X0_prepare : GoodIn wsX3_call (wsV RX3 47 RX0 yX0_prepare wsX0_prepare) := goodIn_app (goodIn_of _ (by decide +kernel)) ggX3_call_X0_prepare
set_option maxRecDepth 20000 in
theorem ggX3_call_X3_callCourier : GoodIn wsX3_call wsX3_callCourier := goodIn_r _ [38, 2, 39, 40, 41, 37, 42, 43, 44, 45, 14, 46, 20, 30, 31, 33, 58, 59, 60, 61, 62, 63, 64, 65, 69, 70, 71, 72, 73, 74, 75, 76, 77, 78, 79, 80, 81, 82] (by decide +kernel) (by decide +kernel)
set_option maxRecDepth 20000 in
theorem gX3_call_X3_callCourier : GoodIn wsX3_call (wsV RX3 82 RX3 yX3_callCourier wsX3_callCourier) := goodIn_app (goodIn_of _ (by decide +kernel)) ggX3_call_X3_callCourier
set_option maxRecDepth 20000 in
theorem ggX3_call_X3_recorded : GoodIn wsX3_call wsX3_recorded := goodIn_r _ [50, 1, 51, 52, 37, 53, 40, 41, 42, 54, 55, 56, 6, 57, 10, 9, 58, 59, 60, 61, 62, 63, 64, 65, 66, 67, 68] (by decide +kernel) (by decide +kernel)
set_option maxRecDepth 20000 in
theorem gX3_call_X3_recorded : GoodIn wsX3_call (wsV RX3 55 RX3 yX3_recorded wsX3_recorded) := goodIn_app (goodIn_of _ (by decide +kernel)) ggX3_call_X3_recorded
theorem dX3_call_0 : decode cX3_call 0 = .ok (.aload_n 0, 1) := by decide +kernel
theorem dX3_call_1 : decode cX3_call 1 = .ok (.getfield 25, 3) := by decide +kernel
theorem dX3_call_4 : decode cX3_call 4 = .ok (.aload_n 0, 1) := by decide +kernel
theorem dX3_call_5 : decode cX3_call 5 = .ok (.getfield 12, 3) := by decide +kernel
theorem dX3_call_8 : decode cX3_call 8 = .ok (.invokevirtual 47, 3) := by decide +kernel
theorem dX3_call_11 : decode cX3_call 11 = .ok (.aload_n 0, 1) := by decide +kernel
theorem dX3_call_12 : decode cX3_call 12 = .ok (.aload_n 0, 1) := by decide +kernel
theorem dX3_call_13 : decode cX3_call 13 = .ok (.iload_n 1, 1) := by decide +kernel
theorem dX3_call_14 : decode cX3_call 14 = .ok (.invokevirtual 82, 3) := by decide +kernel
theorem dX3_call_17 : decode cX3_call 17 = .ok (.invokevirtual 55, 3) := by decide +kernel
theorem dX3_call_20 : decode cX3_call 20 = .ok (.ireturn, 1) := by decide +kernel
theorem dX3_day_0 : decode cX3_day 0 = .ok (.aload_n 0, 1) := by decide +kernel
theorem dX3_day_1 : decode cX3_day 1 = .ok (.getfield 12, 3) := by decide +kernel
theorem dX3_day_4 : decode cX3_day 4 = .ok (.getfield 85, 3) := by decide +kernel
theorem dX3_day_7 : decode cX3_day 7 = .ok (.ireturn, 1) := by decide +kernel
set_option maxRecDepth 20000 in
theorem ggX3_parcel_X1_placeWith : GoodIn wsX3_parcel wsX1_placeWith := goodIn_r _ [9, 10, 11, 12, 13, 14, 15, 16, 17, 18, 19, 20, 21, 22, 23, 24, 25, 46, 47, 48, 49, 50, 51, 52, 53, 54, 55, 56, 57, 58, 59] (by decide +kernel) (by decide +kernel)
set_option maxRecDepth 20000 in
theorem gX3_parcel_X1_placeWith : GoodIn wsX3_parcel (wsV RX3 88 RX1 yX1_placeWith wsX1_placeWith) := goodIn_app (goodIn_of _ (by decide +kernel)) ggX3_parcel_X1_placeWith
set_option maxRecDepth 20000 in
theorem ggX3_parcel_X1_feeAfter : GoodIn wsX3_parcel wsX1_feeAfter := goodIn_r _ [29, 30, 31, 32, 33, 34, 35, 36, 37, 46, 47, 48, 49, 50, 51, 52, 53, 54, 55, 56, 57, 58, 59] (by decide +kernel) (by decide +kernel)
set_option maxRecDepth 20000 in
theorem gX3_parcel_X1_feeAfter : GoodIn wsX3_parcel (wsV RX3 100 RX1 yX1_feeAfter wsX1_feeAfter) := goodIn_app (goodIn_of _ (by decide +kernel)) ggX3_parcel_X1_feeAfter
theorem dX3_parcel_0 : decode cX3_parcel 0 = .ok (.aload_n 0, 1) := by decide +kernel
theorem dX3_parcel_1 : decode cX3_parcel 1 = .ok (.getfield 12, 3) := by decide +kernel
theorem dX3_parcel_4 : decode cX3_parcel 4 = .ok (.iload_n 1, 1) := by decide +kernel
theorem dX3_parcel_5 : decode cX3_parcel 5 = .ok (.invokevirtual 88, 3) := by decide +kernel
theorem dX3_parcel_8 : decode cX3_parcel 8 = .ok (.istore_n 3, 1) := by decide +kernel
theorem dX3_parcel_9 : decode cX3_parcel 9 = .ok (.iload_n 3, 1) := by decide +kernel
theorem dX3_parcel_10 : decode cX3_parcel 10 = .ok (.iconst (-1), 1) := by decide +kernel
theorem dX3_parcel_11 : decode cX3_parcel 11 = .ok (.if_icmp .ne 5, 3) := by decide +kernel
theorem dX3_parcel_14 : decode cX3_parcel 14 = .ok (.iconst (-1), 1) := by decide +kernel
theorem dX3_parcel_15 : decode cX3_parcel 15 = .ok (.ireturn, 1) := by decide +kernel
theorem dX3_parcel_16 : decode cX3_parcel 16 = .ok (.iload_n 2, 1) := by decide +kernel
theorem dX3_parcel_17 : decode cX3_parcel 17 = .ok (.tableswitch 89 0 5 #[39, 49, 59, 69, 74, 79], 39) := by decide +kernel
theorem dX3_parcel_56 : decode cX3_parcel 56 = .ok (.aload_n 0, 1) := by decide +kernel
theorem dX3_parcel_57 : decode cX3_parcel 57 = .ok (.getfield 12, 3) := by decide +kernel
theorem dX3_parcel_60 : decode cX3_parcel 60 = .ok (.getfield 91, 3) := by decide +kernel
theorem dX3_parcel_63 : decode cX3_parcel 63 = .ok (.iload_n 3, 1) := by decide +kernel
theorem dX3_parcel_64 : decode cX3_parcel 64 = .ok (.iaload, 1) := by decide +kernel
theorem dX3_parcel_65 : decode cX3_parcel 65 = .ok (.ireturn, 1) := by decide +kernel
theorem dX3_parcel_66 : decode cX3_parcel 66 = .ok (.aload_n 0, 1) := by decide +kernel
theorem dX3_parcel_67 : decode cX3_parcel 67 = .ok (.getfield 12, 3) := by decide +kernel
theorem dX3_parcel_70 : decode cX3_parcel 70 = .ok (.getfield 94, 3) := by decide +kernel
theorem dX3_parcel_73 : decode cX3_parcel 73 = .ok (.iload_n 3, 1) := by decide +kernel
theorem dX3_parcel_74 : decode cX3_parcel 74 = .ok (.iaload, 1) := by decide +kernel
theorem dX3_parcel_75 : decode cX3_parcel 75 = .ok (.ireturn, 1) := by decide +kernel
theorem dX3_parcel_76 : decode cX3_parcel 76 = .ok (.aload_n 0, 1) := by decide +kernel
theorem dX3_parcel_77 : decode cX3_parcel 77 = .ok (.getfield 12, 3) := by decide +kernel
theorem dX3_parcel_80 : decode cX3_parcel 80 = .ok (.getfield 97, 3) := by decide +kernel
theorem dX3_parcel_83 : decode cX3_parcel 83 = .ok (.iload_n 3, 1) := by decide +kernel
theorem dX3_parcel_84 : decode cX3_parcel 84 = .ok (.iaload, 1) := by decide +kernel
theorem dX3_parcel_85 : decode cX3_parcel 85 = .ok (.ireturn, 1) := by decide +kernel
theorem dX3_parcel_86 : decode cX3_parcel 86 = .ok (.iload_n 3, 1) := by decide +kernel
theorem dX3_parcel_87 : decode cX3_parcel 87 = .ok (.bipush 8, 2) := by decide +kernel
theorem dX3_parcel_89 : decode cX3_parcel 89 = .ok (.idiv, 1) := by decide +kernel
theorem dX3_parcel_90 : decode cX3_parcel 90 = .ok (.ireturn, 1) := by decide +kernel
theorem dX3_parcel_91 : decode cX3_parcel 91 = .ok (.iload_n 3, 1) := by decide +kernel
theorem dX3_parcel_92 : decode cX3_parcel 92 = .ok (.bipush 8, 2) := by decide +kernel
theorem dX3_parcel_94 : decode cX3_parcel 94 = .ok (.irem, 1) := by decide +kernel
theorem dX3_parcel_95 : decode cX3_parcel 95 = .ok (.ireturn, 1) := by decide +kernel
theorem dX3_parcel_96 : decode cX3_parcel 96 = .ok (.aload_n 0, 1) := by decide +kernel
theorem dX3_parcel_97 : decode cX3_parcel 97 = .ok (.getfield 12, 3) := by decide +kernel
theorem dX3_parcel_100 : decode cX3_parcel 100 = .ok (.iload_n 3, 1) := by decide +kernel
theorem dX3_parcel_101 : decode cX3_parcel 101 = .ok (.iconst 0, 1) := by decide +kernel
theorem dX3_parcel_102 : decode cX3_parcel 102 = .ok (.invokevirtual 100, 3) := by decide +kernel
theorem dX3_parcel_105 : decode cX3_parcel 105 = .ok (.ireturn, 1) := by decide +kernel
theorem dX3_parcel_106 : decode cX3_parcel 106 = .ok (.bipush (-2), 2) := by decide +kernel
theorem dX3_parcel_108 : decode cX3_parcel 108 = .ok (.ireturn, 1) := by decide +kernel
set_option maxRecDepth 20000 in
theorem ggX3_codeAt_X3_isPlace : GoodIn wsX3_codeAt wsX3_isPlace := goodIn_r _ [5, 6, 7, 4, 8] (by decide +kernel) (by decide +kernel)
set_option maxRecDepth 20000 in
theorem gX3_codeAt_X3_isPlace : GoodIn wsX3_codeAt (va_wsS RX3 103 yX3_isPlace wsX3_isPlace) := goodIn_app (goodIn_of _ (by decide +kernel)) ggX3_codeAt_X3_isPlace
set_option maxRecDepth 20000 in
theorem ggX3_codeAt_X1_isFree : GoodIn wsX3_codeAt wsX1_isFree := goodIn_r _ [13, 14, 32, 33, 34, 35, 36, 37, 38, 39, 40, 41, 42, 43, 44, 45] (by decide +kernel) (by decide +kernel)
set_option maxRecDepth 20000 in
theorem gX3_codeAt_X1_isFree : GoodIn wsX3_codeAt (wsV RX3 107 RX1 yX1_isFree wsX1_isFree) := goodIn_app (goodIn_of _ (by decide +kernel)) ggX3_codeAt_X1_isFree
set_option maxRecDepth 20000 in
theorem ggX3_codeAt_X1_codeOn : GoodIn wsX3_codeAt wsX1_codeOn := goodIn_r _ [18, 14, 19, 4, 20, 21, 22, 23, 32, 33, 34, 35, 36, 37, 38, 39, 40, 41, 42, 43, 44, 45] (by decide +kernel) (by decide +kernel)
set_option maxRecDepth 20000 in
theorem gX3_codeAt_X1_codeOn : GoodIn wsX3_codeAt (wsV RX3 111 RX1 yX1_codeOn wsX1_codeOn) := goodIn_app (goodIn_of _ (by decide +kernel)) ggX3_codeAt_X1_codeOn
theorem dX3_codeAt_0 : decode cX3_codeAt 0 = .ok (.iload_n 1, 1) := by decide +kernel
theorem dX3_codeAt_1 : decode cX3_codeAt 1 = .ok (.iload_n 2, 1) := by decide +kernel
theorem dX3_codeAt_2 : decode cX3_codeAt 2 = .ok (.invokestatic 103, 3) := by decide +kernel
theorem dX3_codeAt_5 : decode cX3_codeAt 5 = .ok (.ifCond .ne 5, 3) := by decide +kernel
theorem dX3_codeAt_8 : decode cX3_codeAt 8 = .ok (.iconst (-1), 1) := by decide +kernel
theorem dX3_codeAt_9 : decode cX3_codeAt 9 = .ok (.ireturn, 1) := by decide +kernel
theorem dX3_codeAt_10 : decode cX3_codeAt 10 = .ok (.iload_n 1, 1) := by decide +kernel
theorem dX3_codeAt_11 : decode cX3_codeAt 11 = .ok (.bipush 8, 2) := by decide +kernel
theorem dX3_codeAt_13 : decode cX3_codeAt 13 = .ok (.imul, 1) := by decide +kernel
theorem dX3_codeAt_14 : decode cX3_codeAt 14 = .ok (.iload_n 2, 1) := by decide +kernel
theorem dX3_codeAt_15 : decode cX3_codeAt 15 = .ok (.iadd, 1) := by decide +kernel
theorem dX3_codeAt_16 : decode cX3_codeAt 16 = .ok (.istore_n 3, 1) := by decide +kernel
theorem dX3_codeAt_17 : decode cX3_codeAt 17 = .ok (.aload_n 0, 1) := by decide +kernel
theorem dX3_codeAt_18 : decode cX3_codeAt 18 = .ok (.getfield 12, 3) := by decide +kernel
theorem dX3_codeAt_21 : decode cX3_codeAt 21 = .ok (.iload_n 3, 1) := by decide +kernel
theorem dX3_codeAt_22 : decode cX3_codeAt 22 = .ok (.invokevirtual 107, 3) := by decide +kernel
theorem dX3_codeAt_25 : decode cX3_codeAt 25 = .ok (.ifCond .eq 8, 3) := by decide +kernel
theorem dX3_codeAt_28 : decode cX3_codeAt 28 = .ok (.bipush (-6), 2) := by decide +kernel
theorem dX3_codeAt_30 : decode cX3_codeAt 30 = .ok (.goto 11, 3) := by decide +kernel
theorem dX3_codeAt_33 : decode cX3_codeAt 33 = .ok (.aload_n 0, 1) := by decide +kernel
theorem dX3_codeAt_34 : decode cX3_codeAt 34 = .ok (.getfield 12, 3) := by decide +kernel
theorem dX3_codeAt_37 : decode cX3_codeAt 37 = .ok (.iload_n 3, 1) := by decide +kernel
theorem dX3_codeAt_38 : decode cX3_codeAt 38 = .ok (.invokevirtual 111, 3) := by decide +kernel
theorem dX3_codeAt_41 : decode cX3_codeAt 41 = .ok (.ireturn, 1) := by decide +kernel
set_option maxRecDepth 20000 in
theorem ggX3_shelf_X3_isWithin : GoodIn wsX3_shelf wsX3_isWithin := goodIn_r _ [5] (by decide +kernel) (by decide +kernel)
set_option maxRecDepth 20000 in
theorem gX3_shelf_X3_isWithin : GoodIn wsX3_shelf (va_wsS RX3 59 yX3_isWithin wsX3_isWithin) := goodIn_app (goodIn_of _ (by decide +kernel)) ggX3_shelf_X3_isWithin
set_option maxRecDepth 20000 in
theorem ggX3_shelf_X3_sizeOfShelf : GoodIn wsX3_shelf wsX3_sizeOfShelf := goodIn_r _ [8] (by decide +kernel) (by decide +kernel)
set_option maxRecDepth 20000 in
theorem gX3_shelf_X3_sizeOfShelf : GoodIn wsX3_shelf (va_wsS RX3 114 yX3_sizeOfShelf wsX3_sizeOfShelf) := goodIn_app (goodIn_of _ (by decide +kernel)) ggX3_shelf_X3_sizeOfShelf
set_option maxRecDepth 20000 in
theorem ggX3_shelf_X1_parcelsOnShelf : GoodIn wsX3_shelf wsX1_parcelsOnShelf := goodIn_r _ [13, 14, 15, 16, 12, 17, 18, 46, 47, 48, 49, 50, 51, 52, 53, 54, 55, 56, 57, 58, 59] (by decide +kernel) (by decide +kernel)
set_option maxRecDepth 20000 in
theorem gX3_shelf_X1_parcelsOnShelf : GoodIn wsX3_shelf (wsV RX3 117 RX1 yX1_parcelsOnShelf wsX1_parcelsOnShelf) := goodIn_app (goodIn_of _ (by decide +kernel)) ggX3_shelf_X1_parcelsOnShelf
set_option maxRecDepth 20000 in
theorem ggX3_shelf_X1_restingOnShelf : GoodIn wsX3_shelf wsX1_restingOnShelf := goodIn_r _ [22, 14, 15, 16, 12, 17, 18, 23, 24, 25, 26, 27, 28, 4, 29, 30, 31, 32, 33, 34, 35, 36, 37, 46, 47, 48, 49, 50, 51, 52, 53, 54, 55, 56, 57, 58, 59] (by decide +kernel) (by decide +kernel)
set_option maxRecDepth 20000 in
theorem gX3_shelf_X1_restingOnShelf : GoodIn wsX3_shelf (wsV RX3 120 RX1 yX1_restingOnShelf wsX1_restingOnShelf) := goodIn_app (goodIn_of _ (by decide +kernel)) ggX3_shelf_X1_restingOnShelf
theorem dX3_shelf_0 : decode cX3_shelf 0 = .ok (.iload_n 1, 1) := by decide +kernel
theorem dX3_shelf_1 : decode cX3_shelf 1 = .ok (.iconst 0, 1) := by decide +kernel
theorem dX3_shelf_2 : decode cX3_shelf 2 = .ok (.iconst 5, 1) := by decide +kernel
theorem dX3_shelf_3 : decode cX3_shelf 3 = .ok (.invokestatic 59, 3) := by decide +kernel
theorem dX3_shelf_6 : decode cX3_shelf 6 = .ok (.ifCond .ne 5, 3) := by decide +kernel
theorem dX3_shelf_9 : decode cX3_shelf 9 = .ok (.iconst (-1), 1) := by decide +kernel
theorem dX3_shelf_10 : decode cX3_shelf 10 = .ok (.ireturn, 1) := by decide +kernel
theorem dX3_shelf_11 : decode cX3_shelf 11 = .ok (.iload_n 2, 1) := by decide +kernel
theorem dX3_shelf_12 : decode cX3_shelf 12 = .ok (.tableswitch 51 0 2 #[28, 33, 42], 28) := by decide +kernel
theorem dX3_shelf_40 : decode cX3_shelf 40 = .ok (.iload_n 1, 1) := by decide +kernel
theorem dX3_shelf_41 : decode cX3_shelf 41 = .ok (.invokestatic 114, 3) := by decide +kernel
theorem dX3_shelf_44 : decode cX3_shelf 44 = .ok (.ireturn, 1) := by decide +kernel
theorem dX3_shelf_45 : decode cX3_shelf 45 = .ok (.aload_n 0, 1) := by decide +kernel
theorem dX3_shelf_46 : decode cX3_shelf 46 = .ok (.getfield 12, 3) := by decide +kernel
theorem dX3_shelf_49 : decode cX3_shelf 49 = .ok (.iload_n 1, 1) := by decide +kernel
theorem dX3_shelf_50 : decode cX3_shelf 50 = .ok (.invokevirtual 117, 3) := by decide +kernel
theorem dX3_shelf_53 : decode cX3_shelf 53 = .ok (.ireturn, 1) := by decide +kernel
theorem dX3_shelf_54 : decode cX3_shelf 54 = .ok (.aload_n 0, 1) := by decide +kernel
theorem dX3_shelf_55 : decode cX3_shelf 55 = .ok (.getfield 12, 3) := by decide +kernel
theorem dX3_shelf_58 : decode cX3_shelf 58 = .ok (.iload_n 1, 1) := by decide +kernel
theorem dX3_shelf_59 : decode cX3_shelf 59 = .ok (.invokevirtual 120, 3) := by decide +kernel
theorem dX3_shelf_62 : decode cX3_shelf 62 = .ok (.ireturn, 1) := by decide +kernel
theorem dX3_shelf_63 : decode cX3_shelf 63 = .ok (.bipush (-2), 2) := by decide +kernel
theorem dX3_shelf_65 : decode cX3_shelf 65 = .ok (.ireturn, 1) := by decide +kernel
set_option maxRecDepth 20000 in
theorem ggX3_sender_X3_isWithin : GoodIn wsX3_sender wsX3_isWithin := goodIn_r _ [9] (by decide +kernel) (by decide +kernel)
set_option maxRecDepth 20000 in
theorem gX3_sender_X3_isWithin : GoodIn wsX3_sender (va_wsS RX3 59 yX3_isWithin wsX3_isWithin) := goodIn_app (goodIn_of _ (by decide +kernel)) ggX3_sender_X3_isWithin
set_option maxRecDepth 20000 in
theorem ggX3_sender_X1_parcelsOfSender : GoodIn wsX3_sender wsX1_parcelsOfSender := goodIn_r _ [14, 15, 16, 17, 18, 13, 19, 20, 29, 30, 31, 32, 33, 34, 35, 36, 37, 38, 39, 40, 41, 42] (by decide +kernel) (by decide +kernel)
set_option maxRecDepth 20000 in
theorem gX3_sender_X1_parcelsOfSender : GoodIn wsX3_sender (wsV RX3 123 RX1 yX1_parcelsOfSender wsX1_parcelsOfSender) := goodIn_app (goodIn_of _ (by decide +kernel)) ggX3_sender_X1_parcelsOfSender
theorem dX3_sender_0 : decode cX3_sender 0 = .ok (.iload_n 1, 1) := by decide +kernel
theorem dX3_sender_1 : decode cX3_sender 1 = .ok (.iconst 0, 1) := by decide +kernel
theorem dX3_sender_2 : decode cX3_sender 2 = .ok (.bipush 9, 2) := by decide +kernel
theorem dX3_sender_4 : decode cX3_sender 4 = .ok (.invokestatic 59, 3) := by decide +kernel
theorem dX3_sender_7 : decode cX3_sender 7 = .ok (.ifCond .ne 5, 3) := by decide +kernel
theorem dX3_sender_10 : decode cX3_sender 10 = .ok (.iconst (-1), 1) := by decide +kernel
theorem dX3_sender_11 : decode cX3_sender 11 = .ok (.ireturn, 1) := by decide +kernel
theorem dX3_sender_12 : decode cX3_sender 12 = .ok (.iload_n 2, 1) := by decide +kernel
theorem dX3_sender_13 : decode cX3_sender 13 = .ok (.tableswitch 84 0 4 #[35, 44, 54, 64, 74], 35) := by decide +kernel
theorem dX3_sender_48 : decode cX3_sender 48 = .ok (.aload_n 0, 1) := by decide +kernel
theorem dX3_sender_49 : decode cX3_sender 49 = .ok (.getfield 12, 3) := by decide +kernel
theorem dX3_sender_52 : decode cX3_sender 52 = .ok (.iload_n 1, 1) := by decide +kernel
theorem dX3_sender_53 : decode cX3_sender 53 = .ok (.invokevirtual 123, 3) := by decide +kernel
theorem dX3_sender_56 : decode cX3_sender 56 = .ok (.ireturn, 1) := by decide +kernel
theorem dX3_sender_57 : decode cX3_sender 57 = .ok (.aload_n 0, 1) := by decide +kernel
theorem dX3_sender_58 : decode cX3_sender 58 = .ok (.getfield 12, 3) := by decide +kernel
theorem dX3_sender_61 : decode cX3_sender 61 = .ok (.getfield 126, 3) := by decide +kernel
theorem dX3_sender_64 : decode cX3_sender 64 = .ok (.iload_n 1, 1) := by decide +kernel
theorem dX3_sender_65 : decode cX3_sender 65 = .ok (.iaload, 1) := by decide +kernel
theorem dX3_sender_66 : decode cX3_sender 66 = .ok (.ireturn, 1) := by decide +kernel
theorem dX3_sender_67 : decode cX3_sender 67 = .ok (.aload_n 0, 1) := by decide +kernel
theorem dX3_sender_68 : decode cX3_sender 68 = .ok (.getfield 12, 3) := by decide +kernel
theorem dX3_sender_71 : decode cX3_sender 71 = .ok (.getfield 129, 3) := by decide +kernel
theorem dX3_sender_74 : decode cX3_sender 74 = .ok (.iload_n 1, 1) := by decide +kernel
theorem dX3_sender_75 : decode cX3_sender 75 = .ok (.iaload, 1) := by decide +kernel
theorem dX3_sender_76 : decode cX3_sender 76 = .ok (.ireturn, 1) := by decide +kernel
theorem dX3_sender_77 : decode cX3_sender 77 = .ok (.aload_n 0, 1) := by decide +kernel
theorem dX3_sender_78 : decode cX3_sender 78 = .ok (.getfield 12, 3) := by decide +kernel
theorem dX3_sender_81 : decode cX3_sender 81 = .ok (.getfield 132, 3) := by decide +kernel
theorem dX3_sender_84 : decode cX3_sender 84 = .ok (.iload_n 1, 1) := by decide +kernel
theorem dX3_sender_85 : decode cX3_sender 85 = .ok (.iaload, 1) := by decide +kernel
theorem dX3_sender_86 : decode cX3_sender 86 = .ok (.ireturn, 1) := by decide +kernel
theorem dX3_sender_87 : decode cX3_sender 87 = .ok (.aload_n 0, 1) := by decide +kernel
theorem dX3_sender_88 : decode cX3_sender 88 = .ok (.getfield 12, 3) := by decide +kernel
theorem dX3_sender_91 : decode cX3_sender 91 = .ok (.getfield 135, 3) := by decide +kernel
theorem dX3_sender_94 : decode cX3_sender 94 = .ok (.iload_n 1, 1) := by decide +kernel
theorem dX3_sender_95 : decode cX3_sender 95 = .ok (.iaload, 1) := by decide +kernel
theorem dX3_sender_96 : decode cX3_sender 96 = .ok (.ireturn, 1) := by decide +kernel
theorem dX3_sender_97 : decode cX3_sender 97 = .ok (.bipush (-2), 2) := by decide +kernel
theorem dX3_sender_99 : decode cX3_sender 99 = .ok (.ireturn, 1) := by decide +kernel
set_option maxRecDepth 20000 in
theorem ggX3_total_X1_parcelsOnShelves : GoodIn wsX3_total wsX1_parcelsOnShelves := goodIn_r _ [13, 14, 15, 16, 12, 17, 18, 19, 20, 21, 22, 56, 57, 58, 59, 60, 61, 62, 63, 64, 65, 66, 67, 68, 69] (by decide +kernel) (by decide +kernel)
set_option maxRecDepth 20000 in
theorem gX3_total_X1_parcelsOnShelves : GoodIn wsX3_total (wsV RX3 138 RX1 yX1_parcelsOnShelves wsX1_parcelsOnShelves) := goodIn_app (goodIn_of _ (by decide +kernel)) ggX3_total_X1_parcelsOnShelves
set_option maxRecDepth 20000 in
theorem ggX3_total_X3_sum : GoodIn wsX3_total wsX3_sum := goodIn_r _ [26] (by decide +kernel) (by decide +kernel)
set_option maxRecDepth 20000 in
theorem gX3_total_X3_sum : GoodIn wsX3_total (va_wsS RX3 142 yX3_sum wsX3_sum) := goodIn_app (goodIn_of _ (by decide +kernel)) ggX3_total_X3_sum
set_option maxRecDepth 20000 in
theorem ggX3_total_X1_isLocked : GoodIn wsX3_total wsX1_isLocked := goodIn_r _ [30, 31, 56, 57, 58, 59, 60, 61, 62, 63, 64, 65, 66, 67, 68, 69] (by decide +kernel) (by decide +kernel)
set_option maxRecDepth 20000 in
theorem gX3_total_X1_isLocked : GoodIn wsX3_total (wsV RX3 155 RX1 yX1_isLocked wsX1_isLocked) := goodIn_app (goodIn_of _ (by decide +kernel)) ggX3_total_X1_isLocked
set_option maxRecDepth 20000 in
theorem ggX3_total_X1_feesOnShelves : GoodIn wsX3_total wsX1_feesOnShelves := goodIn_r _ [35, 18, 19, 20, 12, 21, 22, 36, 37, 38, 39, 40, 41, 42, 43, 44, 45, 46, 47, 56, 57, 58, 59, 60, 61, 62, 63, 64, 65, 66, 67, 68, 69] (by decide +kernel) (by decide +kernel)
set_option maxRecDepth 20000 in
theorem gX3_total_X1_feesOnShelves : GoodIn wsX3_total (wsV RX3 159 RX1 yX1_feesOnShelves wsX1_feesOnShelves) := goodIn_app (goodIn_of _ (by decide +kernel)) ggX3_total_X1_feesOnShelves
theorem dX3_total_0 : decode cX3_total 0 = .ok (.iload_n 1, 1) := by decide +kernel
theorem dX3_total_1 : decode cX3_total 1 = .ok (.tableswitch 155 0 9 #[55, 63, 74, 82, 93, 104, 112, 123, 131, 147], 55) := by decide +kernel
theorem dX3_total_56 : decode cX3_total 56 = .ok (.aload_n 0, 1) := by decide +kernel
theorem dX3_total_57 : decode cX3_total 57 = .ok (.getfield 12, 3) := by decide +kernel
theorem dX3_total_60 : decode cX3_total 60 = .ok (.invokevirtual 138, 3) := by decide +kernel
theorem dX3_total_63 : decode cX3_total 63 = .ok (.ireturn, 1) := by decide +kernel
theorem dX3_total_64 : decode cX3_total 64 = .ok (.aload_n 0, 1) := by decide +kernel
theorem dX3_total_65 : decode cX3_total 65 = .ok (.getfield 12, 3) := by decide +kernel
theorem dX3_total_68 : decode cX3_total 68 = .ok (.getfield 126, 3) := by decide +kernel
theorem dX3_total_71 : decode cX3_total 71 = .ok (.invokestatic 142, 3) := by decide +kernel
theorem dX3_total_74 : decode cX3_total 74 = .ok (.ireturn, 1) := by decide +kernel
theorem dX3_total_75 : decode cX3_total 75 = .ok (.aload_n 0, 1) := by decide +kernel
theorem dX3_total_76 : decode cX3_total 76 = .ok (.getfield 12, 3) := by decide +kernel
theorem dX3_total_79 : decode cX3_total 79 = .ok (.getfield 146, 3) := by decide +kernel
theorem dX3_total_82 : decode cX3_total 82 = .ok (.ireturn, 1) := by decide +kernel
theorem dX3_total_83 : decode cX3_total 83 = .ok (.aload_n 0, 1) := by decide +kernel
theorem dX3_total_84 : decode cX3_total 84 = .ok (.getfield 12, 3) := by decide +kernel
theorem dX3_total_87 : decode cX3_total 87 = .ok (.getfield 132, 3) := by decide +kernel
theorem dX3_total_90 : decode cX3_total 90 = .ok (.invokestatic 142, 3) := by decide +kernel
theorem dX3_total_93 : decode cX3_total 93 = .ok (.ireturn, 1) := by decide +kernel
theorem dX3_total_94 : decode cX3_total 94 = .ok (.aload_n 0, 1) := by decide +kernel
theorem dX3_total_95 : decode cX3_total 95 = .ok (.getfield 12, 3) := by decide +kernel
theorem dX3_total_98 : decode cX3_total 98 = .ok (.getfield 135, 3) := by decide +kernel
theorem dX3_total_101 : decode cX3_total 101 = .ok (.invokestatic 142, 3) := by decide +kernel
theorem dX3_total_104 : decode cX3_total 104 = .ok (.ireturn, 1) := by decide +kernel
theorem dX3_total_105 : decode cX3_total 105 = .ok (.aload_n 0, 1) := by decide +kernel
theorem dX3_total_106 : decode cX3_total 106 = .ok (.getfield 12, 3) := by decide +kernel
theorem dX3_total_109 : decode cX3_total 109 = .ok (.getfield 149, 3) := by decide +kernel
theorem dX3_total_112 : decode cX3_total 112 = .ok (.ireturn, 1) := by decide +kernel
theorem dX3_total_113 : decode cX3_total 113 = .ok (.aload_n 0, 1) := by decide +kernel
theorem dX3_total_114 : decode cX3_total 114 = .ok (.getfield 12, 3) := by decide +kernel
theorem dX3_total_117 : decode cX3_total 117 = .ok (.getfield 129, 3) := by decide +kernel
theorem dX3_total_120 : decode cX3_total 120 = .ok (.invokestatic 142, 3) := by decide +kernel
theorem dX3_total_123 : decode cX3_total 123 = .ok (.ireturn, 1) := by decide +kernel
theorem dX3_total_124 : decode cX3_total 124 = .ok (.aload_n 0, 1) := by decide +kernel
theorem dX3_total_125 : decode cX3_total 125 = .ok (.getfield 12, 3) := by decide +kernel
theorem dX3_total_128 : decode cX3_total 128 = .ok (.getfield 152, 3) := by decide +kernel
theorem dX3_total_131 : decode cX3_total 131 = .ok (.ireturn, 1) := by decide +kernel
theorem dX3_total_132 : decode cX3_total 132 = .ok (.aload_n 0, 1) := by decide +kernel
theorem dX3_total_133 : decode cX3_total 133 = .ok (.getfield 12, 3) := by decide +kernel
theorem dX3_total_136 : decode cX3_total 136 = .ok (.invokevirtual 155, 3) := by decide +kernel
theorem dX3_total_139 : decode cX3_total 139 = .ok (.ifCond .eq 7, 3) := by decide +kernel
theorem dX3_total_142 : decode cX3_total 142 = .ok (.iconst 1, 1) := by decide +kernel
theorem dX3_total_143 : decode cX3_total 143 = .ok (.goto 4, 3) := by decide +kernel
theorem dX3_total_146 : decode cX3_total 146 = .ok (.iconst 0, 1) := by decide +kernel
theorem dX3_total_147 : decode cX3_total 147 = .ok (.ireturn, 1) := by decide +kernel
theorem dX3_total_148 : decode cX3_total 148 = .ok (.aload_n 0, 1) := by decide +kernel
theorem dX3_total_149 : decode cX3_total 149 = .ok (.getfield 12, 3) := by decide +kernel
theorem dX3_total_152 : decode cX3_total 152 = .ok (.invokevirtual 159, 3) := by decide +kernel
theorem dX3_total_155 : decode cX3_total 155 = .ok (.ireturn, 1) := by decide +kernel
theorem dX3_total_156 : decode cX3_total 156 = .ok (.bipush (-2), 2) := by decide +kernel
theorem dX3_total_158 : decode cX3_total 158 = .ok (.ireturn, 1) := by decide +kernel
theorem dX3_refusal_0 : decode cX3_refusal 0 = .ok (.iload_n 1, 1) := by decide +kernel
theorem dX3_refusal_1 : decode cX3_refusal 1 = .ok (.lookupswitch 37 #[(0, 27), (1, 32)], 27) := by decide +kernel
theorem dX3_refusal_28 : decode cX3_refusal 28 = .ok (.aload_n 0, 1) := by decide +kernel
theorem dX3_refusal_29 : decode cX3_refusal 29 = .ok (.getfield 40, 3) := by decide +kernel
theorem dX3_refusal_32 : decode cX3_refusal 32 = .ok (.ireturn, 1) := by decide +kernel
theorem dX3_refusal_33 : decode cX3_refusal 33 = .ok (.aload_n 0, 1) := by decide +kernel
theorem dX3_refusal_34 : decode cX3_refusal 34 = .ok (.getfield 44, 3) := by decide +kernel
theorem dX3_refusal_37 : decode cX3_refusal 37 = .ok (.ireturn, 1) := by decide +kernel
theorem dX3_refusal_38 : decode cX3_refusal 38 = .ok (.bipush (-2), 2) := by decide +kernel
theorem dX3_refusal_40 : decode cX3_refusal 40 = .ok (.ireturn, 1) := by decide +kernel
set_option maxRecDepth 20000 in
theorem ggX3_isCode_X3_isWithin : GoodIn wsX3_isCode wsX3_isWithin := goodIn_r _ [4] (by decide +kernel) (by decide +kernel)
set_option maxRecDepth 20000 in
theorem gX3_isCode_X3_isWithin : GoodIn wsX3_isCode (va_wsS RX3 59 yX3_isWithin wsX3_isWithin) := goodIn_app (goodIn_of _ (by decide +kernel)) ggX3_isCode_X3_isWithin
set_option maxRecDepth 20000 in
theorem ggX3_isCode_X3_indexOfCode : GoodIn wsX3_isCode wsX3_indexOfCode := goodIn_r _ [7, 1, 2, 3, 4, 8, 9, 10, 11, 12, 13, 14, 15, 16] (by decide +kernel) (by decide +kernel)
set_option maxRecDepth 20000 in
theorem gX3_isCode_X3_indexOfCode : GoodIn wsX3_isCode (va_wsS RX3 162 yX3_indexOfCode wsX3_indexOfCode) := goodIn_app (goodIn_of _ (by decide +kernel)) ggX3_isCode_X3_indexOfCode
theorem dX3_isCode_0 : decode cX3_isCode 0 = .ok (.iload_n 1, 1) := by decide +kernel
theorem dX3_isCode_1 : decode cX3_isCode 1 = .ok (.iconst 0, 1) := by decide +kernel
theorem dX3_isCode_2 : decode cX3_isCode 2 = .ok (.sipush 9999, 3) := by decide +kernel
theorem dX3_isCode_5 : decode cX3_isCode 5 = .ok (.invokestatic 59, 3) := by decide +kernel
theorem dX3_isCode_8 : decode cX3_isCode 8 = .ok (.ifCond .ne 6, 3) := by decide +kernel
theorem dX3_isCode_11 : decode cX3_isCode 11 = .ok (.bipush (-2), 2) := by decide +kernel
end
section
theorem dX3_isCode_13 : decode cX3_isCode 13 = .ok (.ireturn, 1) := by decide +kernel
theorem dX3_isCode_14 : decode cX3_isCode 14 = .ok (.iload_n 1, 1) := by decide +kernel
theorem dX3_isCode_15 : decode cX3_isCode 15 = .ok (.invokestatic 162, 3) := by decide +kernel
theorem dX3_isCode_18 : decode cX3_isCode 18 = .ok (.ifCond .lt 7, 3) := by decide +kernel
theorem dX3_isCode_21 : decode cX3_isCode 21 = .ok (.iconst 1, 1) := by decide +kernel
theorem dX3_isCode_22 : decode cX3_isCode 22 = .ok (.goto 4, 3) := by decide +kernel
theorem dX3_isCode_25 : decode cX3_isCode 25 = .ok (.iconst 0, 1) := by decide +kernel
theorem dX3_isCode_26 : decode cX3_isCode 26 = .ok (.ireturn, 1) := by decide +kernel
set_option maxRecDepth 20000 in
theorem ggX3_codeOf_X3_isPlace : GoodIn wsX3_codeOf wsX3_isPlace := goodIn_r _ [4, 5, 6, 3, 7] (by decide +kernel) (by decide +kernel)
set_option maxRecDepth 20000 in
theorem gX3_codeOf_X3_isPlace : GoodIn wsX3_codeOf (va_wsS RX3 103 yX3_isPlace wsX3_isPlace) := goodIn_app (goodIn_of _ (by decide +kernel)) ggX3_codeOf_X3_isPlace
set_option maxRecDepth 20000 in
theorem ggX3_codeOf_X3_isWithin : GoodIn wsX3_codeOf wsX3_isWithin := goodIn_r _ [7] (by decide +kernel) (by decide +kernel)
set_option maxRecDepth 20000 in
theorem gX3_codeOf_X3_isWithin : GoodIn wsX3_codeOf (va_wsS RX3 59 yX3_isWithin wsX3_isWithin) := goodIn_app (goodIn_of _ (by decide +kernel)) ggX3_codeOf_X3_isWithin
set_option maxRecDepth 20000 in
theorem ggX3_codeOf_X3_weekdayOf : GoodIn wsX3_codeOf wsX3_weekdayOf := goodIn_r _ [10] (by decide +kernel) (by decide +kernel)
set_option maxRecDepth 20000 in
theorem gX3_codeOf_X3_weekdayOf : GoodIn wsX3_codeOf (va_wsS RX3 165 yX3_weekdayOf wsX3_weekdayOf) := goodIn_app (goodIn_of _ (by decide +kernel)) ggX3_codeOf_X3_weekdayOf
set_option maxRecDepth 20000 in
theorem ggX3_codeOf_X3_codeFor : GoodIn wsX3_codeOf wsX3_codeFor := goodIn_r _ [13, 14, 15, 3, 16] (by decide +kernel) (by decide +kernel)
set_option maxRecDepth 20000 in
theorem gX3_codeOf_X3_codeFor : GoodIn wsX3_codeOf (va_wsS RX3 168 yX3_codeFor wsX3_codeFor) := goodIn_app (goodIn_of _ (by decide +kernel)) ggX3_codeOf_X3_codeFor
theorem dX3_codeOf_0 : decode cX3_codeOf 0 = .ok (.iload_n 2, 1) := by decide +kernel
theorem dX3_codeOf_1 : decode cX3_codeOf 1 = .ok (.iload_n 3, 1) := by decide +kernel
theorem dX3_codeOf_2 : decode cX3_codeOf 2 = .ok (.invokestatic 103, 3) := by decide +kernel
theorem dX3_codeOf_5 : decode cX3_codeOf 5 = .ok (.ifCond .ne 5, 3) := by decide +kernel
theorem dX3_codeOf_8 : decode cX3_codeOf 8 = .ok (.iconst (-1), 1) := by decide +kernel
theorem dX3_codeOf_9 : decode cX3_codeOf 9 = .ok (.ireturn, 1) := by decide +kernel
theorem dX3_codeOf_10 : decode cX3_codeOf 10 = .ok (.iload_n 1, 1) := by decide +kernel
theorem dX3_codeOf_11 : decode cX3_codeOf 11 = .ok (.iconst 0, 1) := by decide +kernel
theorem dX3_codeOf_12 : decode cX3_codeOf 12 = .ok (.sipush 9999, 3) := by decide +kernel
theorem dX3_codeOf_15 : decode cX3_codeOf 15 = .ok (.invokestatic 59, 3) := by decide +kernel
theorem dX3_codeOf_18 : decode cX3_codeOf 18 = .ok (.ifCond .ne 6, 3) := by decide +kernel
theorem dX3_codeOf_21 : decode cX3_codeOf 21 = .ok (.bipush (-2), 2) := by decide +kernel
theorem dX3_codeOf_23 : decode cX3_codeOf 23 = .ok (.ireturn, 1) := by decide +kernel
theorem dX3_codeOf_24 : decode cX3_codeOf 24 = .ok (.iload_n 1, 1) := by decide +kernel
theorem dX3_codeOf_25 : decode cX3_codeOf 25 = .ok (.invokestatic 165, 3) := by decide +kernel
theorem dX3_codeOf_28 : decode cX3_codeOf 28 = .ok (.iload_n 2, 1) := by decide +kernel
theorem dX3_codeOf_29 : decode cX3_codeOf 29 = .ok (.bipush 8, 2) := by decide +kernel
theorem dX3_codeOf_31 : decode cX3_codeOf 31 = .ok (.imul, 1) := by decide +kernel
theorem dX3_codeOf_32 : decode cX3_codeOf 32 = .ok (.iload_n 3, 1) := by decide +kernel
theorem dX3_codeOf_33 : decode cX3_codeOf 33 = .ok (.iadd, 1) := by decide +kernel
theorem dX3_codeOf_34 : decode cX3_codeOf 34 = .ok (.invokestatic 168, 3) := by decide +kernel
theorem dX3_codeOf_37 : decode cX3_codeOf 37 = .ok (.ireturn, 1) := by decide +kernel
set_option maxRecDepth 20000 in
theorem ggX3_restsUntil_X3_isWithin : GoodIn wsX3_restsUntil wsX3_isWithin := goodIn_r _ [7] (by decide +kernel) (by decide +kernel)
set_option maxRecDepth 20000 in
theorem gX3_restsUntil_X3_isWithin : GoodIn wsX3_restsUntil (va_wsS RX3 59 yX3_isWithin wsX3_isWithin) := goodIn_app (goodIn_of _ (by decide +kernel)) ggX3_restsUntil_X3_isWithin
set_option maxRecDepth 20000 in
theorem ggX3_restsUntil_X3_indexOfCode : GoodIn wsX3_restsUntil wsX3_indexOfCode := goodIn_r _ [10, 4, 5, 6, 7, 11, 12, 13, 14, 15, 16, 17, 18, 19] (by decide +kernel) (by decide +kernel)
set_option maxRecDepth 20000 in
theorem gX3_restsUntil_X3_indexOfCode : GoodIn wsX3_restsUntil (va_wsS RX3 162 yX3_indexOfCode wsX3_indexOfCode) := goodIn_app (goodIn_of _ (by decide +kernel)) ggX3_restsUntil_X3_indexOfCode
set_option maxRecDepth 20000 in
theorem ggX3_restsUntil_X1_rests : GoodIn wsX3_restsUntil wsX1_rests := goodIn_r _ [24, 25, 26, 27, 36, 37, 38, 39, 40, 41, 42, 43, 44, 45, 46, 47, 48, 49] (by decide +kernel) (by decide +kernel)
set_option maxRecDepth 20000 in
theorem gX3_restsUntil_X1_rests : GoodIn wsX3_restsUntil (wsV RX3 171 RX1 yX1_rests wsX1_rests) := goodIn_app (goodIn_of _ (by decide +kernel)) ggX3_restsUntil_X1_rests
theorem dX3_restsUntil_0 : decode cX3_restsUntil 0 = .ok (.iload_n 1, 1) := by decide +kernel
theorem dX3_restsUntil_1 : decode cX3_restsUntil 1 = .ok (.iconst 0, 1) := by decide +kernel
theorem dX3_restsUntil_2 : decode cX3_restsUntil 2 = .ok (.sipush 9999, 3) := by decide +kernel
theorem dX3_restsUntil_5 : decode cX3_restsUntil 5 = .ok (.invokestatic 59, 3) := by decide +kernel
theorem dX3_restsUntil_8 : decode cX3_restsUntil 8 = .ok (.ifCond .ne 6, 3) := by decide +kernel
theorem dX3_restsUntil_11 : decode cX3_restsUntil 11 = .ok (.bipush (-2), 2) := by decide +kernel
theorem dX3_restsUntil_13 : decode cX3_restsUntil 13 = .ok (.ireturn, 1) := by decide +kernel
theorem dX3_restsUntil_14 : decode cX3_restsUntil 14 = .ok (.iload_n 1, 1) := by decide +kernel
theorem dX3_restsUntil_15 : decode cX3_restsUntil 15 = .ok (.invokestatic 162, 3) := by decide +kernel
theorem dX3_restsUntil_18 : decode cX3_restsUntil 18 = .ok (.istore_n 2, 1) := by decide +kernel
theorem dX3_restsUntil_19 : decode cX3_restsUntil 19 = .ok (.iload_n 2, 1) := by decide +kernel
theorem dX3_restsUntil_20 : decode cX3_restsUntil 20 = .ok (.ifCond .lt 14, 3) := by decide +kernel
theorem dX3_restsUntil_23 : decode cX3_restsUntil 23 = .ok (.aload_n 0, 1) := by decide +kernel
theorem dX3_restsUntil_24 : decode cX3_restsUntil 24 = .ok (.getfield 12, 3) := by decide +kernel
theorem dX3_restsUntil_27 : decode cX3_restsUntil 27 = .ok (.iload_n 2, 1) := by decide +kernel
theorem dX3_restsUntil_28 : decode cX3_restsUntil 28 = .ok (.invokevirtual 171, 3) := by decide +kernel
theorem dX3_restsUntil_31 : decode cX3_restsUntil 31 = .ok (.ifCond .ne 6, 3) := by decide +kernel
theorem dX3_restsUntil_34 : decode cX3_restsUntil 34 = .ok (.bipush (-6), 2) := by decide +kernel
theorem dX3_restsUntil_36 : decode cX3_restsUntil 36 = .ok (.ireturn, 1) := by decide +kernel
theorem dX3_restsUntil_37 : decode cX3_restsUntil 37 = .ok (.aload_n 0, 1) := by decide +kernel
theorem dX3_restsUntil_38 : decode cX3_restsUntil 38 = .ok (.getfield 12, 3) := by decide +kernel
theorem dX3_restsUntil_41 : decode cX3_restsUntil 41 = .ok (.getfield 174, 3) := by decide +kernel
theorem dX3_restsUntil_44 : decode cX3_restsUntil 44 = .ok (.iload_n 2, 1) := by decide +kernel
theorem dX3_restsUntil_45 : decode cX3_restsUntil 45 = .ok (.iaload, 1) := by decide +kernel
theorem dX3_restsUntil_46 : decode cX3_restsUntil 46 = .ok (.aload_n 0, 1) := by decide +kernel
theorem dX3_restsUntil_47 : decode cX3_restsUntil 47 = .ok (.getfield 12, 3) := by decide +kernel
theorem dX3_restsUntil_50 : decode cX3_restsUntil 50 = .ok (.getfield 63, 3) := by decide +kernel
theorem dX3_restsUntil_53 : decode cX3_restsUntil 53 = .ok (.iconst 0, 1) := by decide +kernel
theorem dX3_restsUntil_54 : decode cX3_restsUntil 54 = .ok (.iaload, 1) := by decide +kernel
theorem dX3_restsUntil_55 : decode cX3_restsUntil 55 = .ok (.iadd, 1) := by decide +kernel
theorem dX3_restsUntil_56 : decode cX3_restsUntil 56 = .ok (.ireturn, 1) := by decide +kernel
set_option maxRecDepth 20000 in
theorem ggX3_nextCode_X3_isWithin : GoodIn wsX3_nextCode wsX3_isWithin := goodIn_r _ [6] (by decide +kernel) (by decide +kernel)
set_option maxRecDepth 20000 in
theorem gX3_nextCode_X3_isWithin : GoodIn wsX3_nextCode (va_wsS RX3 59 yX3_isWithin wsX3_isWithin) := goodIn_app (goodIn_of _ (by decide +kernel)) ggX3_nextCode_X3_isWithin
set_option maxRecDepth 20000 in
theorem ggX3_nextCode_X3_firstShelfFor : GoodIn wsX3_nextCode wsX3_firstShelfFor := goodIn_r _ [9] (by decide +kernel) (by decide +kernel)
set_option maxRecDepth 20000 in
theorem gX3_nextCode_X3_firstShelfFor : GoodIn wsX3_nextCode (va_wsS RX3 177 yX3_firstShelfFor wsX3_firstShelfFor) := goodIn_app (goodIn_of _ (by decide +kernel)) ggX3_nextCode_X3_firstShelfFor
set_option maxRecDepth 20000 in
theorem ggX3_nextCode_X1_placeToGive : GoodIn wsX3_nextCode wsX1_placeToGive := goodIn_r _ [14, 15, 16, 17, 13, 18, 19, 20, 21, 22, 23, 24, 25, 5, 26, 27, 28, 29, 30, 31, 32, 33, 34, 50, 51, 52, 53, 54, 55, 56, 57, 58, 59, 60, 61, 62, 63] (by decide +kernel) (by decide +kernel)
set_option maxRecDepth 20000 in
theorem gX3_nextCode_X1_placeToGive : GoodIn wsX3_nextCode (wsV RX3 180 RX1 yX1_placeToGive wsX1_placeToGive) := goodIn_app (goodIn_of _ (by decide +kernel)) ggX3_nextCode_X1_placeToGive
set_option maxRecDepth 20000 in
theorem ggX3_nextCode_X3_weekdayOf : GoodIn wsX3_nextCode wsX3_weekdayOf := goodIn_r _ [26] (by decide +kernel) (by decide +kernel)
set_option maxRecDepth 20000 in
theorem gX3_nextCode_X3_weekdayOf : GoodIn wsX3_nextCode (va_wsS RX3 165 yX3_weekdayOf wsX3_weekdayOf) := goodIn_app (goodIn_of _ (by decide +kernel)) ggX3_nextCode_X3_weekdayOf
set_option maxRecDepth 20000 in
theorem ggX3_nextCode_X3_codeFor : GoodIn wsX3_nextCode wsX3_codeFor := goodIn_r _ [38, 39, 40, 5, 41] (by decide +kernel) (by decide +kernel)
set_option maxRecDepth 20000 in
theorem gX3_nextCode_X3_codeFor : GoodIn wsX3_nextCode (va_wsS RX3 168 yX3_codeFor wsX3_codeFor) := goodIn_app (goodIn_of _ (by decide +kernel)) ggX3_nextCode_X3_codeFor
theorem dX3_nextCode_0 : decode cX3_nextCode 0 = .ok (.iload_n 1, 1) := by decide +kernel
theorem dX3_nextCode_1 : decode cX3_nextCode 1 = .ok (.iconst 0, 1) := by decide +kernel
theorem dX3_nextCode_2 : decode cX3_nextCode 2 = .ok (.iconst 2, 1) := by decide +kernel
theorem dX3_nextCode_3 : decode cX3_nextCode 3 = .ok (.invokestatic 59, 3) := by decide +kernel
theorem dX3_nextCode_6 : decode cX3_nextCode 6 = .ok (.ifCond .ne 6, 3) := by decide +kernel
theorem dX3_nextCode_9 : decode cX3_nextCode 9 = .ok (.bipush (-2), 2) := by decide +kernel
theorem dX3_nextCode_11 : decode cX3_nextCode 11 = .ok (.ireturn, 1) := by decide +kernel
theorem dX3_nextCode_12 : decode cX3_nextCode 12 = .ok (.aload_n 0, 1) := by decide +kernel
theorem dX3_nextCode_13 : decode cX3_nextCode 13 = .ok (.getfield 12, 3) := by decide +kernel
theorem dX3_nextCode_16 : decode cX3_nextCode 16 = .ok (.iload_n 1, 1) := by decide +kernel
theorem dX3_nextCode_17 : decode cX3_nextCode 17 = .ok (.invokestatic 177, 3) := by decide +kernel
theorem dX3_nextCode_20 : decode cX3_nextCode 20 = .ok (.iconst 5, 1) := by decide +kernel
theorem dX3_nextCode_21 : decode cX3_nextCode 21 = .ok (.invokevirtual 180, 3) := by decide +kernel
theorem dX3_nextCode_24 : decode cX3_nextCode 24 = .ok (.istore_n 2, 1) := by decide +kernel
theorem dX3_nextCode_25 : decode cX3_nextCode 25 = .ok (.iload_n 2, 1) := by decide +kernel
theorem dX3_nextCode_26 : decode cX3_nextCode 26 = .ok (.iconst (-1), 1) := by decide +kernel
theorem dX3_nextCode_27 : decode cX3_nextCode 27 = .ok (.if_icmp .ne 8, 3) := by decide +kernel
theorem dX3_nextCode_30 : decode cX3_nextCode 30 = .ok (.bipush (-6), 2) := by decide +kernel
theorem dX3_nextCode_32 : decode cX3_nextCode 32 = .ok (.goto 17, 3) := by decide +kernel
theorem dX3_nextCode_35 : decode cX3_nextCode 35 = .ok (.aload_n 0, 1) := by decide +kernel
theorem dX3_nextCode_36 : decode cX3_nextCode 36 = .ok (.getfield 12, 3) := by decide +kernel
theorem dX3_nextCode_39 : decode cX3_nextCode 39 = .ok (.getfield 85, 3) := by decide +kernel
theorem dX3_nextCode_42 : decode cX3_nextCode 42 = .ok (.invokestatic 165, 3) := by decide +kernel
theorem dX3_nextCode_45 : decode cX3_nextCode 45 = .ok (.iload_n 2, 1) := by decide +kernel
theorem dX3_nextCode_46 : decode cX3_nextCode 46 = .ok (.invokestatic 168, 3) := by decide +kernel
theorem dX3_nextCode_49 : decode cX3_nextCode 49 = .ok (.ireturn, 1) := by decide +kernel
set_option maxRecDepth 20000 in
theorem ggX3_feeIn_X1_placeWith : GoodIn wsX3_feeIn wsX1_placeWith := goodIn_r _ [6, 7, 8, 9, 10, 11, 12, 13, 14, 15, 16, 17, 18, 19, 20, 21, 22, 43, 44, 45, 46, 47, 48, 49, 50, 51, 52, 53, 54, 55, 56] (by decide +kernel) (by decide +kernel)
set_option maxRecDepth 20000 in
theorem gX3_feeIn_X1_placeWith : GoodIn wsX3_feeIn (wsV RX3 88 RX1 yX1_placeWith wsX1_placeWith) := goodIn_app (goodIn_of _ (by decide +kernel)) ggX3_feeIn_X1_placeWith
set_option maxRecDepth 20000 in
theorem ggX3_feeIn_X3_isWithin : GoodIn wsX3_feeIn wsX3_isWithin := goodIn_r _ [13] (by decide +kernel) (by decide +kernel)
set_option maxRecDepth 20000 in
theorem gX3_feeIn_X3_isWithin : GoodIn wsX3_feeIn (va_wsS RX3 59 yX3_isWithin wsX3_isWithin) := goodIn_app (goodIn_of _ (by decide +kernel)) ggX3_feeIn_X3_isWithin
set_option maxRecDepth 20000 in
theorem ggX3_feeIn_X1_feeAfter : GoodIn wsX3_feeIn wsX1_feeAfter := goodIn_r _ [26, 27, 28, 29, 30, 31, 32, 33, 34, 43, 44, 45, 46, 47, 48, 49, 50, 51, 52, 53, 54, 55, 56] (by decide +kernel) (by decide +kernel)
set_option maxRecDepth 20000 in
theorem gX3_feeIn_X1_feeAfter : GoodIn wsX3_feeIn (wsV RX3 100 RX1 yX1_feeAfter wsX1_feeAfter) := goodIn_app (goodIn_of _ (by decide +kernel)) ggX3_feeIn_X1_feeAfter
theorem dX3_feeIn_0 : decode cX3_feeIn 0 = .ok (.aload_n 0, 1) := by decide +kernel
theorem dX3_feeIn_1 : decode cX3_feeIn 1 = .ok (.getfield 12, 3) := by decide +kernel
theorem dX3_feeIn_4 : decode cX3_feeIn 4 = .ok (.iload_n 1, 1) := by decide +kernel
theorem dX3_feeIn_5 : decode cX3_feeIn 5 = .ok (.invokevirtual 88, 3) := by decide +kernel
theorem dX3_feeIn_8 : decode cX3_feeIn 8 = .ok (.istore_n 3, 1) := by decide +kernel
theorem dX3_feeIn_9 : decode cX3_feeIn 9 = .ok (.iload_n 3, 1) := by decide +kernel
theorem dX3_feeIn_10 : decode cX3_feeIn 10 = .ok (.iconst (-1), 1) := by decide +kernel
theorem dX3_feeIn_11 : decode cX3_feeIn 11 = .ok (.if_icmp .ne 5, 3) := by decide +kernel
theorem dX3_feeIn_14 : decode cX3_feeIn 14 = .ok (.iconst (-1), 1) := by decide +kernel
theorem dX3_feeIn_15 : decode cX3_feeIn 15 = .ok (.ireturn, 1) := by decide +kernel
theorem dX3_feeIn_16 : decode cX3_feeIn 16 = .ok (.iload_n 2, 1) := by decide +kernel
theorem dX3_feeIn_17 : decode cX3_feeIn 17 = .ok (.iconst 0, 1) := by decide +kernel
theorem dX3_feeIn_18 : decode cX3_feeIn 18 = .ok (.bipush 99, 2) := by decide +kernel
theorem dX3_feeIn_20 : decode cX3_feeIn 20 = .ok (.invokestatic 59, 3) := by decide +kernel
theorem dX3_feeIn_23 : decode cX3_feeIn 23 = .ok (.ifCond .ne 6, 3) := by decide +kernel
theorem dX3_feeIn_26 : decode cX3_feeIn 26 = .ok (.bipush (-2), 2) := by decide +kernel
theorem dX3_feeIn_28 : decode cX3_feeIn 28 = .ok (.ireturn, 1) := by decide +kernel
theorem dX3_feeIn_29 : decode cX3_feeIn 29 = .ok (.aload_n 0, 1) := by decide +kernel
theorem dX3_feeIn_30 : decode cX3_feeIn 30 = .ok (.getfield 12, 3) := by decide +kernel
theorem dX3_feeIn_33 : decode cX3_feeIn 33 = .ok (.iload_n 3, 1) := by decide +kernel
theorem dX3_feeIn_34 : decode cX3_feeIn 34 = .ok (.iload_n 2, 1) := by decide +kernel
theorem dX3_feeIn_35 : decode cX3_feeIn 35 = .ok (.invokevirtual 100, 3) := by decide +kernel
theorem dX3_feeIn_38 : decode cX3_feeIn 38 = .ok (.ireturn, 1) := by decide +kernel
set_option maxRecDepth 20000 in
theorem ggX3_goesIn_X1_placeWith : GoodIn wsX3_goesIn wsX1_placeWith := goodIn_r _ [7, 8, 9, 10, 11, 12, 13, 14, 15, 16, 17, 18, 19, 20, 21, 22, 23, 81, 82, 83, 84, 85, 86, 87, 88, 89, 90, 91, 92, 93, 94] (by decide +kernel) (by decide +kernel)
set_option maxRecDepth 20000 in
theorem gX3_goesIn_X1_placeWith : GoodIn wsX3_goesIn (wsV RX3 88 RX1 yX1_placeWith wsX1_placeWith) := goodIn_app (goodIn_of _ (by decide +kernel)) ggX3_goesIn_X1_placeWith
set_option maxRecDepth 20000 in
theorem ggX3_goesIn_X1_copyFrom : GoodIn wsX3_goesIn wsX1_copyFrom := goodIn_r _ [27, 28, 29, 30, 31, 32, 33, 34, 35, 36, 8, 37, 38, 39, 40, 41, 42, 43, 44, 81, 82, 83, 84, 85, 86, 87, 88, 89, 90, 91, 92, 93, 94] (by decide +kernel) (by decide +kernel)
set_option maxRecDepth 20000 in
theorem gX3_goesIn_X1_copyFrom : GoodIn wsX3_goesIn (wsV RX3 183 RX1 yX1_copyFrom wsX1_copyFrom) := goodIn_app (goodIn_of _ (by decide +kernel)) ggX3_goesIn_X1_copyFrom
set_option maxRecDepth 20000 in
theorem ggX3_goesIn_X1_beginDay : GoodIn wsX3_goesIn wsX1_beginDay := goodIn_r _ [48, 28, 29, 49, 50, 51, 6, 52, 41, 32, 53, 54, 55, 56, 42, 44, 57, 58, 59, 60, 37, 61, 62, 63, 64, 8, 39, 65, 66, 67, 68, 40, 22, 10, 23, 81, 82, 83, 84, 85, 86, 87, 88, 89, 90, 91, 92, 93, 94] (by decide +kernel) (by decide +kernel)
set_option maxRecDepth 20000 in
theorem gX3_goesIn_X1_beginDay : GoodIn wsX3_goesIn (wsV RX3 186 RX1 yX1_beginDay wsX1_beginDay) := goodIn_app (goodIn_of _ (by decide +kernel)) ggX3_goesIn_X1_beginDay
set_option maxRecDepth 20000 in
theorem ggX3_goesIn_X1_isFree : GoodIn wsX3_goesIn wsX1_isFree := goodIn_r _ [72, 8, 81, 82, 83, 84, 85, 86, 87, 88, 89, 90, 91, 92, 93, 94] (by decide +kernel) (by decide +kernel)
set_option maxRecDepth 20000 in
theorem gX3_goesIn_X1_isFree : GoodIn wsX3_goesIn (wsV RX3 107 RX1 yX1_isFree wsX1_isFree) := goodIn_app (goodIn_of _ (by decide +kernel)) ggX3_goesIn_X1_isFree
theorem dX3_goesIn_0 : decode cX3_goesIn 0 = .ok (.aload_n 0, 1) := by decide +kernel
theorem dX3_goesIn_1 : decode cX3_goesIn 1 = .ok (.getfield 12, 3) := by decide +kernel
theorem dX3_goesIn_4 : decode cX3_goesIn 4 = .ok (.iload_n 1, 1) := by decide +kernel
theorem dX3_goesIn_5 : decode cX3_goesIn 5 = .ok (.invokevirtual 88, 3) := by decide +kernel
theorem dX3_goesIn_8 : decode cX3_goesIn 8 = .ok (.istore_n 2, 1) := by decide +kernel
theorem dX3_goesIn_9 : decode cX3_goesIn 9 = .ok (.iload_n 2, 1) := by decide +kernel
theorem dX3_goesIn_10 : decode cX3_goesIn 10 = .ok (.iconst (-1), 1) := by decide +kernel
theorem dX3_goesIn_11 : decode cX3_goesIn 11 = .ok (.if_icmp .ne 5, 3) := by decide +kernel
theorem dX3_goesIn_14 : decode cX3_goesIn 14 = .ok (.iconst (-1), 1) := by decide +kernel
theorem dX3_goesIn_15 : decode cX3_goesIn 15 = .ok (.ireturn, 1) := by decide +kernel
theorem dX3_goesIn_16 : decode cX3_goesIn 16 = .ok (.aload_n 0, 1) := by decide +kernel
theorem dX3_goesIn_17 : decode cX3_goesIn 17 = .ok (.getfield 19, 3) := by decide +kernel
theorem dX3_goesIn_20 : decode cX3_goesIn 20 = .ok (.aload_n 0, 1) := by decide +kernel
theorem dX3_goesIn_21 : decode cX3_goesIn 21 = .ok (.getfield 12, 3) := by decide +kernel
theorem dX3_goesIn_24 : decode cX3_goesIn 24 = .ok (.invokevirtual 183, 3) := by decide +kernel
theorem dX3_goesIn_27 : decode cX3_goesIn 27 = .ok (.iconst 1, 1) := by decide +kernel
theorem dX3_goesIn_28 : decode cX3_goesIn 28 = .ok (.istore_n 3, 1) := by decide +kernel
theorem dX3_goesIn_29 : decode cX3_goesIn 29 = .ok (.iload_n 3, 1) := by decide +kernel
theorem dX3_goesIn_30 : decode cX3_goesIn 30 = .ok (.bipush 60, 2) := by decide +kernel
theorem dX3_goesIn_32 : decode cX3_goesIn 32 = .ok (.if_icmp .gt 30, 3) := by decide +kernel
theorem dX3_goesIn_35 : decode cX3_goesIn 35 = .ok (.aload_n 0, 1) := by decide +kernel
theorem dX3_goesIn_36 : decode cX3_goesIn 36 = .ok (.getfield 19, 3) := by decide +kernel
theorem dX3_goesIn_39 : decode cX3_goesIn 39 = .ok (.invokevirtual 186, 3) := by decide +kernel
theorem dX3_goesIn_42 : decode cX3_goesIn 42 = .ok (.pop, 1) := by decide +kernel
theorem dX3_goesIn_43 : decode cX3_goesIn 43 = .ok (.aload_n 0, 1) := by decide +kernel
theorem dX3_goesIn_44 : decode cX3_goesIn 44 = .ok (.getfield 19, 3) := by decide +kernel
theorem dX3_goesIn_47 : decode cX3_goesIn 47 = .ok (.iload_n 2, 1) := by decide +kernel
theorem dX3_goesIn_48 : decode cX3_goesIn 48 = .ok (.invokevirtual 107, 3) := by decide +kernel
theorem dX3_goesIn_51 : decode cX3_goesIn 51 = .ok (.ifCond .eq 5, 3) := by decide +kernel
theorem dX3_goesIn_54 : decode cX3_goesIn 54 = .ok (.iload_n 3, 1) := by decide +kernel
theorem dX3_goesIn_55 : decode cX3_goesIn 55 = .ok (.ireturn, 1) := by decide +kernel
theorem dX3_goesIn_56 : decode cX3_goesIn 56 = .ok (.iinc 3 1, 3) := by decide +kernel
theorem dX3_goesIn_59 : decode cX3_goesIn 59 = .ok (.goto (-30), 3) := by decide +kernel
theorem dX3_goesIn_62 : decode cX3_goesIn 62 = .ok (.bipush (-6), 2) := by decide +kernel
theorem dX3_goesIn_64 : decode cX3_goesIn 64 = .ok (.ireturn, 1) := by decide +kernel
set_option maxRecDepth 20000 in
theorem ggX3_chargesIn_X3_isWithin : GoodIn wsX3_chargesIn wsX3_isWithin := goodIn_r _ [7] (by decide +kernel) (by decide +kernel)
set_option maxRecDepth 20000 in
theorem gX3_chargesIn_X3_isWithin : GoodIn wsX3_chargesIn (va_wsS RX3 59 yX3_isWithin wsX3_isWithin) := goodIn_app (goodIn_of _ (by decide +kernel)) ggX3_chargesIn_X3_isWithin
set_option maxRecDepth 20000 in
theorem ggX3_chargesIn_X1_copyFrom : GoodIn wsX3_chargesIn wsX1_copyFrom := goodIn_r _ [12, 13, 14, 15, 16, 17, 18, 19, 20, 21, 22, 23, 24, 25, 26, 27, 28, 29, 30, 68, 69, 70, 71, 72, 73, 74, 75, 76, 77, 78, 79, 80, 81] (by decide +kernel) (by decide +kernel)
set_option maxRecDepth 20000 in
theorem gX3_chargesIn_X1_copyFrom : GoodIn wsX3_chargesIn (wsV RX3 183 RX1 yX1_copyFrom wsX1_copyFrom) := goodIn_app (goodIn_of _ (by decide +kernel)) ggX3_chargesIn_X1_copyFrom
set_option maxRecDepth 20000 in
theorem ggX3_chargesIn_X1_beginDay : GoodIn wsX3_chargesIn wsX1_beginDay := goodIn_r _ [34, 13, 14, 35, 36, 37, 11, 38, 27, 17, 39, 40, 41, 42, 28, 30, 43, 44, 45, 46, 23, 47, 48, 49, 50, 22, 25, 51, 52, 53, 54, 26, 55, 6, 56, 68, 69, 70, 71, 72, 73, 74, 75, 76, 77, 78, 79, 80, 81] (by decide +kernel) (by decide +kernel)
set_option maxRecDepth 20000 in
theorem gX3_chargesIn_X1_beginDay : GoodIn wsX3_chargesIn (wsV RX3 186 RX1 yX1_beginDay wsX1_beginDay) := goodIn_app (goodIn_of _ (by decide +kernel)) ggX3_chargesIn_X1_beginDay
set_option maxRecDepth 20000 in
theorem ggX3_chargesIn_X3_sum : GoodIn wsX3_chargesIn wsX3_sum := goodIn_r _ [59] (by decide +kernel) (by decide +kernel)
set_option maxRecDepth 20000 in
theorem gX3_chargesIn_X3_sum : GoodIn wsX3_chargesIn (va_wsS RX3 142 yX3_sum wsX3_sum) := goodIn_app (goodIn_of _ (by decide +kernel)) ggX3_chargesIn_X3_sum
theorem dX3_chargesIn_0 : decode cX3_chargesIn 0 = .ok (.iload_n 1, 1) := by decide +kernel
theorem dX3_chargesIn_1 : decode cX3_chargesIn 1 = .ok (.iconst 1, 1) := by decide +kernel
theorem dX3_chargesIn_2 : decode cX3_chargesIn 2 = .ok (.bipush 30, 2) := by decide +kernel
theorem dX3_chargesIn_4 : decode cX3_chargesIn 4 = .ok (.invokestatic 59, 3) := by decide +kernel
theorem dX3_chargesIn_7 : decode cX3_chargesIn 7 = .ok (.ifCond .ne 6, 3) := by decide +kernel
theorem dX3_chargesIn_10 : decode cX3_chargesIn 10 = .ok (.bipush (-2), 2) := by decide +kernel
theorem dX3_chargesIn_12 : decode cX3_chargesIn 12 = .ok (.ireturn, 1) := by decide +kernel
theorem dX3_chargesIn_13 : decode cX3_chargesIn 13 = .ok (.aload_n 0, 1) := by decide +kernel
theorem dX3_chargesIn_14 : decode cX3_chargesIn 14 = .ok (.getfield 19, 3) := by decide +kernel
theorem dX3_chargesIn_17 : decode cX3_chargesIn 17 = .ok (.aload_n 0, 1) := by decide +kernel
theorem dX3_chargesIn_18 : decode cX3_chargesIn 18 = .ok (.getfield 12, 3) := by decide +kernel
theorem dX3_chargesIn_21 : decode cX3_chargesIn 21 = .ok (.invokevirtual 183, 3) := by decide +kernel
theorem dX3_chargesIn_24 : decode cX3_chargesIn 24 = .ok (.iconst 0, 1) := by decide +kernel
theorem dX3_chargesIn_25 : decode cX3_chargesIn 25 = .ok (.istore_n 2, 1) := by decide +kernel
theorem dX3_chargesIn_26 : decode cX3_chargesIn 26 = .ok (.iload_n 2, 1) := by decide +kernel
theorem dX3_chargesIn_27 : decode cX3_chargesIn 27 = .ok (.iload_n 1, 1) := by decide +kernel
theorem dX3_chargesIn_28 : decode cX3_chargesIn 28 = .ok (.if_icmp .ge 17, 3) := by decide +kernel
theorem dX3_chargesIn_31 : decode cX3_chargesIn 31 = .ok (.aload_n 0, 1) := by decide +kernel
theorem dX3_chargesIn_32 : decode cX3_chargesIn 32 = .ok (.getfield 19, 3) := by decide +kernel
theorem dX3_chargesIn_35 : decode cX3_chargesIn 35 = .ok (.invokevirtual 186, 3) := by decide +kernel
theorem dX3_chargesIn_38 : decode cX3_chargesIn 38 = .ok (.pop, 1) := by decide +kernel
theorem dX3_chargesIn_39 : decode cX3_chargesIn 39 = .ok (.iinc 2 1, 3) := by decide +kernel
theorem dX3_chargesIn_42 : decode cX3_chargesIn 42 = .ok (.goto (-16), 3) := by decide +kernel
theorem dX3_chargesIn_45 : decode cX3_chargesIn 45 = .ok (.aload_n 0, 1) := by decide +kernel
theorem dX3_chargesIn_46 : decode cX3_chargesIn 46 = .ok (.getfield 19, 3) := by decide +kernel
theorem dX3_chargesIn_49 : decode cX3_chargesIn 49 = .ok (.getfield 129, 3) := by decide +kernel
theorem dX3_chargesIn_52 : decode cX3_chargesIn 52 = .ok (.invokestatic 142, 3) := by decide +kernel
theorem dX3_chargesIn_55 : decode cX3_chargesIn 55 = .ok (.aload_n 0, 1) := by decide +kernel
theorem dX3_chargesIn_56 : decode cX3_chargesIn 56 = .ok (.getfield 12, 3) := by decide +kernel
theorem dX3_chargesIn_59 : decode cX3_chargesIn 59 = .ok (.getfield 129, 3) := by decide +kernel
theorem dX3_chargesIn_62 : decode cX3_chargesIn 62 = .ok (.invokestatic 142, 3) := by decide +kernel
theorem dX3_chargesIn_65 : decode cX3_chargesIn 65 = .ok (.isub, 1) := by decide +kernel
theorem dX3_chargesIn_66 : decode cX3_chargesIn 66 = .ok (.ireturn, 1) := by decide +kernel
set_option maxRecDepth 20000 in
theorem ggX3_append_X3_isWithin : GoodIn wsX3_append wsX3_isWithin := goodIn_r _ [5] (by decide +kernel) (by decide +kernel)
set_option maxRecDepth 20000 in
theorem gX3_append_X3_isWithin : GoodIn wsX3_append (va_wsS RX3 59 yX3_isWithin wsX3_isWithin) := goodIn_app (goodIn_of _ (by decide +kernel)) ggX3_append_X3_isWithin
set_option maxRecDepth 20000 in
theorem ggX3_append_X2_isFull : GoodIn wsX3_append wsX2_isFull := goodIn_r _ [10, 11, 25, 26] (by decide +kernel) (by decide +kernel)
set_option maxRecDepth 20000 in
theorem gX3_append_X2_isFull : GoodIn wsX3_append (wsV RX3 189 RX2 yX2_isFull wsX2_isFull) := goodIn_app (goodIn_of _ (by decide +kernel)) ggX3_append_X2_isFull
set_option maxRecDepth 20000 in
theorem ggX3_append_X2_add : GoodIn wsX3_append wsX2_add := goodIn_r _ [15, 11, 16, 25, 26] (by decide +kernel) (by decide +kernel)
set_option maxRecDepth 20000 in
theorem gX3_append_X2_add : GoodIn wsX3_append (wsV RX3 192 RX2 yX2_add wsX2_add) := goodIn_app (goodIn_of _ (by decide +kernel)) ggX3_append_X2_add
theorem dX3_append_0 : decode cX3_append 0 = .ok (.iload_n 1, 1) := by decide +kernel
theorem dX3_append_1 : decode cX3_append 1 = .ok (.bipush 33, 2) := by decide +kernel
theorem dX3_append_3 : decode cX3_append 3 = .ok (.bipush 126, 2) := by decide +kernel
theorem dX3_append_5 : decode cX3_append 5 = .ok (.invokestatic 59, 3) := by decide +kernel
theorem dX3_append_8 : decode cX3_append 8 = .ok (.ifCond .ne 6, 3) := by decide +kernel
theorem dX3_append_11 : decode cX3_append 11 = .ok (.bipush (-2), 2) := by decide +kernel
theorem dX3_append_13 : decode cX3_append 13 = .ok (.ireturn, 1) := by decide +kernel
theorem dX3_append_14 : decode cX3_append 14 = .ok (.aload_n 0, 1) := by decide +kernel
theorem dX3_append_15 : decode cX3_append 15 = .ok (.getfield 32, 3) := by decide +kernel
theorem dX3_append_18 : decode cX3_append 18 = .ok (.invokevirtual 189, 3) := by decide +kernel
theorem dX3_append_21 : decode cX3_append 21 = .ok (.ifCond .eq 6, 3) := by decide +kernel
theorem dX3_append_24 : decode cX3_append 24 = .ok (.bipush (-4), 2) := by decide +kernel
theorem dX3_append_26 : decode cX3_append 26 = .ok (.ireturn, 1) := by decide +kernel
theorem dX3_append_27 : decode cX3_append 27 = .ok (.aload_n 0, 1) := by decide +kernel
theorem dX3_append_28 : decode cX3_append 28 = .ok (.getfield 32, 3) := by decide +kernel
theorem dX3_append_31 : decode cX3_append 31 = .ok (.iload_n 1, 1) := by decide +kernel
theorem dX3_append_32 : decode cX3_append 32 = .ok (.i2c, 1) := by decide +kernel
theorem dX3_append_33 : decode cX3_append 33 = .ok (.invokevirtual 192, 3) := by decide +kernel
theorem dX3_append_36 : decode cX3_append 36 = .ok (.ireturn, 1) := by decide +kernel
set_option maxRecDepth 20000 in
theorem ggX3_clearText_X2_empty : GoodIn wsX3_clearText wsX2_empty := goodIn_r _ [6, 7, 16, 17] (by decide +kernel) (by decide +kernel)
set_option maxRecDepth 20000 in
theorem gX3_clearText_X2_empty : GoodIn wsX3_clearText (wsV RX3 196 RX2 yX2_empty wsX2_empty) := goodIn_app (goodIn_of _ (by decide +kernel)) ggX3_clearText_X2_empty
theorem dX3_clearText_0 : decode cX3_clearText 0 = .ok (.aload_n 0, 1) := by decide +kernel
theorem dX3_clearText_1 : decode cX3_clearText 1 = .ok (.getfield 32, 3) := by decide +kernel
theorem dX3_clearText_4 : decode cX3_clearText 4 = .ok (.invokevirtual 196, 3) := by decide +kernel
theorem dX3_clearText_7 : decode cX3_clearText 7 = .ok (.ireturn, 1) := by decide +kernel
set_option maxRecDepth 20000 in
theorem ggX3_errorPosition_X2_firstError : GoodIn wsX3_errorPosition wsX2_firstError := goodIn_r _ [6, 7, 8, 9, 10, 5, 11, 12, 13, 14, 15, 16, 17, 18, 19, 20, 21, 22, 23, 24, 25, 26, 27, 28, 29, 30, 31, 32, 33, 34, 35, 36, 45, 46] (by decide +kernel) (by decide +kernel)
set_option maxRecDepth 20000 in
theorem gX3_errorPosition_X2_firstError : GoodIn wsX3_errorPosition (wsV RX3 199 RX2 yX2_firstError wsX2_firstError) := goodIn_app (goodIn_of _ (by decide +kernel)) ggX3_errorPosition_X2_firstError
theorem dX3_errorPosition_0 : decode cX3_errorPosition 0 = .ok (.aload_n 0, 1) := by decide +kernel
theorem dX3_errorPosition_1 : decode cX3_errorPosition 1 = .ok (.getfield 32, 3) := by decide +kernel
theorem dX3_errorPosition_4 : decode cX3_errorPosition 4 = .ok (.invokevirtual 199, 3) := by decide +kernel
theorem dX3_errorPosition_7 : decode cX3_errorPosition 7 = .ok (.ireturn, 1) := by decide +kernel
set_option maxRecDepth 20000 in
theorem ggX3_execute_X2_firstError : GoodIn wsX3_execute wsX2_firstError := goodIn_r _ [9, 10, 11, 12, 13, 8, 14, 15, 16, 17, 18, 19, 20, 21, 22, 23, 24, 25, 26, 27, 28, 29, 30, 31, 32, 33, 34, 35, 36, 37, 38, 39, 251, 252] (by decide +kernel) (by decide +kernel)
set_option maxRecDepth 20000 in
theorem gX3_execute_X2_firstError : GoodIn wsX3_execute (wsV RX3 199 RX2 yX2_firstError wsX2_firstError) := goodIn_app (goodIn_of _ (by decide +kernel)) ggX3_execute_X2_firstError
set_option maxRecDepth 20000 in
theorem ggX3_execute_X0_prepare : GoodIn wsX3_execute wsX0_prepare := goodIn_r _ [44, 45, 46, 47, 48, 49, 50, 51, 52, 53, 54, 55, 56, 57, 58, 59, 60, 61, 62, 63, 64, 65, 66, 67, 68, 69, 70, 253, 254, 255, 256, 257, 258, 259, 260, 261, 262, 263, 264, 265, 266, 267, 268, 269] (by decide +kernel) (by decide +kernel)
set_option maxRecDepth 20000 in
theorem gX3_execute_X0_prepare : GoodIn wsX3_execute (wsV RX3 47 RX0 yX0_prepare wsX0_prepare) := goodIn_app (goodIn_of _ (by decide +kernel)) ggX3_execute_X0_prepare
set_option maxRecDepth 20000 in
theorem ggX3_execute_X2_isStartOfCommand : GoodIn wsX3_execute wsX2_isStartOfCommand := goodIn_r _ [74, 11, 12, 13, 8, 14, 10, 15, 16, 17, 18, 251, 252] (by decide +kernel) (by decide +kernel)
set_option maxRecDepth 20000 in
theorem gX3_execute_X2_isStartOfCommand : GoodIn wsX3_execute (wsV RX3 205 RX2 yX2_isStartOfCommand wsX2_isStartOfCommand) := goodIn_app (goodIn_of _ (by decide +kernel)) ggX3_execute_X2_isStartOfCommand
set_option maxRecDepth 20000 in
theorem ggX3_execute_X3_executeCommand : GoodIn wsX3_execute wsX3_executeCommand := goodIn_r _ [78, 1, 79, 12, 13, 8, 14, 10, 15, 16, 17, 18, 80, 81, 82, 83, 11, 84, 85, 86, 87, 31, 32, 33, 88, 89, 90, 91, 3, 92, 93, 94, 95, 96, 97, 98, 99, 100, 51, 101, 102, 103, 104, 105, 62, 106, 107, 108, 109, 53, 110, 111, 112, 113, 114, 115, 116, 117, 66, 57, 118, 119, 120, 121, 122, 123, 124, 125, 126, 127, 128, 129, 130, 131, 132, 133, 134, 135, 63, 64, 65, 136, 137, 138, 139, 140, 141, 142, 143, 144, 145, 146, 147, 148, 149, 150, 151, 152, 153, 154, 155, 156, 54, 157, 158, 159, 160, 161, 162, 163, 164, 165, 166, 167, 168, 169, 170, 171, 172, 173, 174, 175, 176, 177, 178, 179, 180, 181, 182, 183, 184, 185, 186, 187, 188, 189, 190, 191, 192, 193, 194, 195, 196, 197, 198, 199, 200, 201, 202, 203, 204, 205, 206, 207, 208, 209, 210, 211, 212, 213, 214, 67, 215, 216, 217, 218, 68, 70, 219, 220, 221, 222, 223, 224, 225, 226, 227, 243, 244, 245, 246, 247, 248, 249, 250, 251, 252, 256, 257, 258, 259, 260, 261, 262, 263, 264, 265, 266, 267, 268, 269] (by decide +kernel) (by decide +kernel)
set_option maxRecDepth 20000 in
theorem gX3_execute_X3_executeCommand : GoodIn wsX3_execute (wsV RX3 208 RX3 yX3_executeCommand wsX3_executeCommand) := goodIn_app (goodIn_of _ (by decide +kernel)) ggX3_execute_X3_executeCommand
set_option maxRecDepth 20000 in
theorem ggX3_execute_X3_isError : GoodIn wsX3_execute wsX3_isError := goodIn_r _ [230, 94, 16, 17, 18] (by decide +kernel) (by decide +kernel)
set_option maxRecDepth 20000 in
theorem gX3_execute_X3_isError : GoodIn wsX3_execute (va_wsS RX3 211 yX3_isError wsX3_isError) := goodIn_app (goodIn_of _ (by decide +kernel)) ggX3_execute_X3_isError
set_option maxRecDepth 20000 in
theorem ggX3_execute_X2_empty : GoodIn wsX3_execute wsX2_empty := goodIn_r _ [234, 10, 251, 252] (by decide +kernel) (by decide +kernel)
set_option maxRecDepth 20000 in
theorem gX3_execute_X2_empty : GoodIn wsX3_execute (wsV RX3 196 RX2 yX2_empty wsX2_empty) := goodIn_app (goodIn_of _ (by decide +kernel)) ggX3_execute_X2_empty
set_option maxRecDepth 20000 in
theorem ggX3_execute_X3_recorded : GoodIn wsX3_execute wsX3_recorded := goodIn_r _ [238, 2, 228, 229, 17, 230, 94, 16, 18, 239, 240, 241, 43, 242, 47, 46, 243, 244, 245, 246, 247, 248, 249, 250, 253, 254, 255] (by decide +kernel) (by decide +kernel)
set_option maxRecDepth 20000 in
theorem gX3_execute_X3_recorded : GoodIn wsX3_execute (wsV RX3 55 RX3 yX3_recorded wsX3_recorded) := goodIn_app (goodIn_of _ (by decide +kernel)) ggX3_execute_X3_recorded
theorem dX3_execute_0 : decode cX3_execute 0 = .ok (.aload_n 0, 1) := by decide +kernel
theorem dX3_execute_1 : decode cX3_execute 1 = .ok (.getfield 32, 3) := by decide +kernel
theorem dX3_execute_4 : decode cX3_execute 4 = .ok (.invokevirtual 199, 3) := by decide +kernel
theorem dX3_execute_7 : decode cX3_execute 7 = .ok (.bipush (-6), 2) := by decide +kernel
theorem dX3_execute_9 : decode cX3_execute 9 = .ok (.if_icmp .eq 6, 3) := by decide +kernel
theorem dX3_execute_12 : decode cX3_execute 12 = .ok (.bipush (-5), 2) := by decide +kernel
theorem dX3_execute_14 : decode cX3_execute 14 = .ok (.ireturn, 1) := by decide +kernel
theorem dX3_execute_15 : decode cX3_execute 15 = .ok (.aload_n 0, 1) := by decide +kernel
theorem dX3_execute_16 : decode cX3_execute 16 = .ok (.getfield 25, 3) := by decide +kernel
theorem dX3_execute_19 : decode cX3_execute 19 = .ok (.aload_n 0, 1) := by decide +kernel
theorem dX3_execute_20 : decode cX3_execute 20 = .ok (.getfield 12, 3) := by decide +kernel
theorem dX3_execute_23 : decode cX3_execute 23 = .ok (.invokevirtual 47, 3) := by decide +kernel
theorem dX3_execute_26 : decode cX3_execute 26 = .ok (.iconst 0, 1) := by decide +kernel
theorem dX3_execute_27 : decode cX3_execute 27 = .ok (.istore_n 1, 1) := by decide +kernel
theorem dX3_execute_28 : decode cX3_execute 28 = .ok (.iconst 0, 1) := by decide +kernel
theorem dX3_execute_29 : decode cX3_execute 29 = .ok (.istore_n 2, 1) := by decide +kernel
theorem dX3_execute_30 : decode cX3_execute 30 = .ok (.iload_n 2, 1) := by decide +kernel
theorem dX3_execute_31 : decode cX3_execute 31 = .ok (.aload_n 0, 1) := by decide +kernel
theorem dX3_execute_32 : decode cX3_execute 32 = .ok (.getfield 32, 3) := by decide +kernel
theorem dX3_execute_35 : decode cX3_execute 35 = .ok (.getfield 202, 3) := by decide +kernel
theorem dX3_execute_38 : decode cX3_execute 38 = .ok (.if_icmp .ge 37, 3) := by decide +kernel
theorem dX3_execute_41 : decode cX3_execute 41 = .ok (.aload_n 0, 1) := by decide +kernel
theorem dX3_execute_42 : decode cX3_execute 42 = .ok (.getfield 32, 3) := by decide +kernel
theorem dX3_execute_45 : decode cX3_execute 45 = .ok (.iload_n 2, 1) := by decide +kernel
theorem dX3_execute_46 : decode cX3_execute 46 = .ok (.invokevirtual 205, 3) := by decide +kernel
theorem dX3_execute_49 : decode cX3_execute 49 = .ok (.ifCond .eq 20, 3) := by decide +kernel
theorem dX3_execute_52 : decode cX3_execute 52 = .ok (.aload_n 0, 1) := by decide +kernel
theorem dX3_execute_53 : decode cX3_execute 53 = .ok (.iload_n 2, 1) := by decide +kernel
theorem dX3_execute_54 : decode cX3_execute 54 = .ok (.invokevirtual 208, 3) := by decide +kernel
theorem dX3_execute_57 : decode cX3_execute 57 = .ok (.invokestatic 211, 3) := by decide +kernel
theorem dX3_execute_60 : decode cX3_execute 60 = .ok (.ifCond .eq 6, 3) := by decide +kernel
theorem dX3_execute_63 : decode cX3_execute 63 = .ok (.goto 12, 3) := by decide +kernel
theorem dX3_execute_66 : decode cX3_execute 66 = .ok (.iinc 1 1, 3) := by decide +kernel
theorem dX3_execute_69 : decode cX3_execute 69 = .ok (.iinc 2 1, 3) := by decide +kernel
theorem dX3_execute_72 : decode cX3_execute 72 = .ok (.goto (-42), 3) := by decide +kernel
theorem dX3_execute_75 : decode cX3_execute 75 = .ok (.aload_n 0, 1) := by decide +kernel
theorem dX3_execute_76 : decode cX3_execute 76 = .ok (.getfield 32, 3) := by decide +kernel
theorem dX3_execute_79 : decode cX3_execute 79 = .ok (.invokevirtual 196, 3) := by decide +kernel
theorem dX3_execute_82 : decode cX3_execute 82 = .ok (.pop, 1) := by decide +kernel
theorem dX3_execute_83 : decode cX3_execute 83 = .ok (.aload_n 0, 1) := by decide +kernel
theorem dX3_execute_84 : decode cX3_execute 84 = .ok (.iload_n 1, 1) := by decide +kernel
theorem dX3_execute_85 : decode cX3_execute 85 = .ok (.invokevirtual 55, 3) := by decide +kernel
theorem dX3_execute_88 : decode cX3_execute 88 = .ok (.ireturn, 1) := by decide +kernel
set_option maxRecDepth 20000 in
theorem ggX3_undo_X0_takeBack : GoodIn wsX3_undo wsX0_takeBack := goodIn_r _ [8, 9, 10, 11, 12, 13, 14, 15, 16, 17, 18, 19, 20, 21, 22, 23, 24, 25, 26, 27, 28, 29, 30, 31, 32, 33, 34, 43, 44, 45, 46, 47, 48, 49, 50, 51, 52, 53, 54, 55, 56, 57, 58, 59] (by decide +kernel) (by decide +kernel)
set_option maxRecDepth 20000 in
theorem gX3_undo_X0_takeBack : GoodIn wsX3_undo (wsV RX3 217 RX0 yX0_takeBack wsX0_takeBack) := goodIn_app (goodIn_of _ (by decide +kernel)) ggX3_undo_X0_takeBack
theorem dX3_undo_0 : decode cX3_undo 0 = .ok (.aload_n 0, 1) := by decide +kernel
theorem dX3_undo_1 : decode cX3_undo 1 = .ok (.getfield 25, 3) := by decide +kernel
theorem dX3_undo_4 : decode cX3_undo 4 = .ok (.getfield 214, 3) := by decide +kernel
theorem dX3_undo_7 : decode cX3_undo 7 = .ok (.ifCond .ne 6, 3) := by decide +kernel
theorem dX3_undo_10 : decode cX3_undo 10 = .ok (.bipush (-3), 2) := by decide +kernel
theorem dX3_undo_12 : decode cX3_undo 12 = .ok (.ireturn, 1) := by decide +kernel
theorem dX3_undo_13 : decode cX3_undo 13 = .ok (.aload_n 0, 1) := by decide +kernel
theorem dX3_undo_14 : decode cX3_undo 14 = .ok (.getfield 25, 3) := by decide +kernel
theorem dX3_undo_17 : decode cX3_undo 17 = .ok (.aload_n 0, 1) := by decide +kernel
theorem dX3_undo_18 : decode cX3_undo 18 = .ok (.getfield 12, 3) := by decide +kernel
theorem dX3_undo_21 : decode cX3_undo 21 = .ok (.invokevirtual 217, 3) := by decide +kernel
theorem dX3_undo_24 : decode cX3_undo 24 = .ok (.ireturn, 1) := by decide +kernel
set_option maxRecDepth 20000 in
theorem ggX3_save_X1_copyFrom : GoodIn wsX3_save wsX1_copyFrom := goodIn_r _ [8, 9, 10, 11, 12, 13, 14, 15, 16, 17, 18, 19, 20, 21, 22, 23, 24, 25, 26, 47, 48, 49, 50, 51, 52, 53, 54, 55, 56, 57, 58, 59, 60] (by decide +kernel) (by decide +kernel)
set_option maxRecDepth 20000 in
theorem gX3_save_X1_copyFrom : GoodIn wsX3_save (wsV RX3 183 RX1 yX1_copyFrom wsX1_copyFrom) := goodIn_app (goodIn_of _ (by decide +kernel)) ggX3_save_X1_copyFrom
set_option maxRecDepth 20000 in
theorem ggX3_save_X1_parcelsOnShelves : GoodIn wsX3_save wsX1_parcelsOnShelves := goodIn_r _ [30, 31, 32, 33, 7, 34, 35, 36, 37, 38, 18, 47, 48, 49, 50, 51, 52, 53, 54, 55, 56, 57, 58, 59, 60] (by decide +kernel) (by decide +kernel)
set_option maxRecDepth 20000 in
theorem gX3_save_X1_parcelsOnShelves : GoodIn wsX3_save (wsV RX3 138 RX1 yX1_parcelsOnShelves wsX1_parcelsOnShelves) := goodIn_app (goodIn_of _ (by decide +kernel)) ggX3_save_X1_parcelsOnShelves
theorem dX3_save_0 : decode cX3_save 0 = .ok (.aload_n 0, 1) := by decide +kernel
theorem dX3_save_1 : decode cX3_save 1 = .ok (.getfield 16, 3) := by decide +kernel
theorem dX3_save_4 : decode cX3_save 4 = .ok (.aload_n 0, 1) := by decide +kernel
theorem dX3_save_5 : decode cX3_save 5 = .ok (.getfield 12, 3) := by decide +kernel
theorem dX3_save_8 : decode cX3_save 8 = .ok (.invokevirtual 183, 3) := by decide +kernel
theorem dX3_save_11 : decode cX3_save 11 = .ok (.aload_n 0, 1) := by decide +kernel
theorem dX3_save_12 : decode cX3_save 12 = .ok (.iconst 1, 1) := by decide +kernel
theorem dX3_save_13 : decode cX3_save 13 = .ok (.putfield 36, 3) := by decide +kernel
theorem dX3_save_16 : decode cX3_save 16 = .ok (.aload_n 0, 1) := by decide +kernel
theorem dX3_save_17 : decode cX3_save 17 = .ok (.getfield 12, 3) := by decide +kernel
theorem dX3_save_20 : decode cX3_save 20 = .ok (.invokevirtual 138, 3) := by decide +kernel
theorem dX3_save_23 : decode cX3_save 23 = .ok (.ireturn, 1) := by decide +kernel
set_option maxRecDepth 20000 in
theorem ggX3_restore_X0_prepare : GoodIn wsX3_restore wsX0_prepare := goodIn_r _ [9, 10, 11, 12, 13, 14, 15, 16, 17, 18, 19, 20, 21, 22, 23, 24, 25, 26, 27, 28, 29, 30, 31, 32, 33, 34, 35, 72, 73, 74, 75, 76, 77, 78, 79, 80, 81, 82, 83, 84, 85, 86, 87, 88] (by decide +kernel) (by decide +kernel)
set_option maxRecDepth 20000 in
theorem gX3_restore_X0_prepare : GoodIn wsX3_restore (wsV RX3 47 RX0 yX0_prepare wsX0_prepare) := goodIn_app (goodIn_of _ (by decide +kernel)) ggX3_restore_X0_prepare
set_option maxRecDepth 20000 in
theorem ggX3_restore_X1_copyFrom : GoodIn wsX3_restore wsX1_copyFrom := goodIn_r _ [17, 18, 19, 20, 21, 22, 23, 24, 25, 26, 27, 28, 29, 30, 31, 32, 33, 34, 35, 75, 76, 77, 78, 79, 80, 81, 82, 83, 84, 85, 86, 87, 88] (by decide +kernel) (by decide +kernel)
set_option maxRecDepth 20000 in
theorem gX3_restore_X1_copyFrom : GoodIn wsX3_restore (wsV RX3 183 RX1 yX1_copyFrom wsX1_copyFrom) := goodIn_app (goodIn_of _ (by decide +kernel)) ggX3_restore_X1_copyFrom
set_option maxRecDepth 20000 in
theorem ggX3_restore_X1_parcelsOnShelves : GoodIn wsX3_restore wsX1_parcelsOnShelves := goodIn_r _ [40, 41, 42, 43, 16, 44, 45, 46, 47, 48, 27, 75, 76, 77, 78, 79, 80, 81, 82, 83, 84, 85, 86, 87, 88] (by decide +kernel) (by decide +kernel)
set_option maxRecDepth 20000 in
theorem gX3_restore_X1_parcelsOnShelves : GoodIn wsX3_restore (wsV RX3 138 RX1 yX1_parcelsOnShelves wsX1_parcelsOnShelves) := goodIn_app (goodIn_of _ (by decide +kernel)) ggX3_restore_X1_parcelsOnShelves
set_option maxRecDepth 20000 in
theorem ggX3_restore_X3_recorded : GoodIn wsX3_restore wsX3_recorded := goodIn_r _ [53, 2, 54, 55, 52, 56, 57, 58, 59, 60, 61, 62, 8, 63, 12, 11, 64, 65, 66, 67, 68, 69, 70, 71, 72, 73, 74] (by decide +kernel) (by decide +kernel)
set_option maxRecDepth 20000 in
theorem gX3_restore_X3_recorded : GoodIn wsX3_restore (wsV RX3 55 RX3 yX3_recorded wsX3_recorded) := goodIn_app (goodIn_of _ (by decide +kernel)) ggX3_restore_X3_recorded
theorem dX3_restore_0 : decode cX3_restore 0 = .ok (.aload_n 0, 1) := by decide +kernel
theorem dX3_restore_1 : decode cX3_restore 1 = .ok (.getfield 36, 3) := by decide +kernel
theorem dX3_restore_4 : decode cX3_restore 4 = .ok (.ifCond .ne 6, 3) := by decide +kernel
theorem dX3_restore_7 : decode cX3_restore 7 = .ok (.bipush (-3), 2) := by decide +kernel
theorem dX3_restore_9 : decode cX3_restore 9 = .ok (.ireturn, 1) := by decide +kernel
theorem dX3_restore_10 : decode cX3_restore 10 = .ok (.aload_n 0, 1) := by decide +kernel
theorem dX3_restore_11 : decode cX3_restore 11 = .ok (.getfield 25, 3) := by decide +kernel
theorem dX3_restore_14 : decode cX3_restore 14 = .ok (.aload_n 0, 1) := by decide +kernel
theorem dX3_restore_15 : decode cX3_restore 15 = .ok (.getfield 12, 3) := by decide +kernel
theorem dX3_restore_18 : decode cX3_restore 18 = .ok (.invokevirtual 47, 3) := by decide +kernel
theorem dX3_restore_21 : decode cX3_restore 21 = .ok (.aload_n 0, 1) := by decide +kernel
theorem dX3_restore_22 : decode cX3_restore 22 = .ok (.getfield 12, 3) := by decide +kernel
theorem dX3_restore_25 : decode cX3_restore 25 = .ok (.aload_n 0, 1) := by decide +kernel
theorem dX3_restore_26 : decode cX3_restore 26 = .ok (.getfield 16, 3) := by decide +kernel
theorem dX3_restore_29 : decode cX3_restore 29 = .ok (.invokevirtual 183, 3) := by decide +kernel
theorem dX3_restore_32 : decode cX3_restore 32 = .ok (.aload_n 0, 1) := by decide +kernel
theorem dX3_restore_33 : decode cX3_restore 33 = .ok (.aload_n 0, 1) := by decide +kernel
theorem dX3_restore_34 : decode cX3_restore 34 = .ok (.getfield 12, 3) := by decide +kernel
theorem dX3_restore_37 : decode cX3_restore 37 = .ok (.invokevirtual 138, 3) := by decide +kernel
theorem dX3_restore_40 : decode cX3_restore 40 = .ok (.invokevirtual 55, 3) := by decide +kernel
theorem dX3_restore_43 : decode cX3_restore 43 = .ok (.ireturn, 1) := by decide +kernel
set_option maxRecDepth 20000 in
theorem ggX3_changeSetting_X3_isWithin : GoodIn wsX3_changeSetting wsX3_isWithin := goodIn_r _ [8] (by decide +kernel) (by decide +kernel)
set_option maxRecDepth 20000 in
theorem gX3_changeSetting_X3_isWithin : GoodIn wsX3_changeSetting (va_wsS RX3 59 yX3_isWithin wsX3_isWithin) := goodIn_app (goodIn_of _ (by decide +kernel)) ggX3_changeSetting_X3_isWithin
theorem dX3_changeSetting_0 : decode cX3_changeSetting 0 = .ok (.iload_n 1, 1) := by decide +kernel
theorem dX3_changeSetting_1 : decode cX3_changeSetting 1 = .ok (.iconst 0, 1) := by decide +kernel
theorem dX3_changeSetting_2 : decode cX3_changeSetting 2 = .ok (.iconst 4, 1) := by decide +kernel
theorem dX3_changeSetting_3 : decode cX3_changeSetting 3 = .ok (.invokestatic 59, 3) := by decide +kernel
theorem dX3_changeSetting_6 : decode cX3_changeSetting 6 = .ok (.ifCond .ne 6, 3) := by decide +kernel
theorem dX3_changeSetting_9 : decode cX3_changeSetting 9 = .ok (.bipush (-2), 2) := by decide +kernel
theorem dX3_changeSetting_11 : decode cX3_changeSetting 11 = .ok (.ireturn, 1) := by decide +kernel
theorem dX3_changeSetting_12 : decode cX3_changeSetting 12 = .ok (.iload_n 2, 1) := by decide +kernel
theorem dX3_changeSetting_13 : decode cX3_changeSetting 13 = .ok (.getstatic 221, 3) := by decide +kernel
theorem dX3_changeSetting_16 : decode cX3_changeSetting 16 = .ok (.iload_n 1, 1) := by decide +kernel
theorem dX3_changeSetting_17 : decode cX3_changeSetting 17 = .ok (.iaload, 1) := by decide +kernel
theorem dX3_changeSetting_18 : decode cX3_changeSetting 18 = .ok (.getstatic 224, 3) := by decide +kernel
theorem dX3_changeSetting_21 : decode cX3_changeSetting 21 = .ok (.iload_n 1, 1) := by decide +kernel
theorem dX3_changeSetting_22 : decode cX3_changeSetting 22 = .ok (.iaload, 1) := by decide +kernel
theorem dX3_changeSetting_23 : decode cX3_changeSetting 23 = .ok (.invokestatic 59, 3) := by decide +kernel
theorem dX3_changeSetting_26 : decode cX3_changeSetting 26 = .ok (.ifCond .ne 6, 3) := by decide +kernel
theorem dX3_changeSetting_29 : decode cX3_changeSetting 29 = .ok (.bipush (-2), 2) := by decide +kernel
theorem dX3_changeSetting_31 : decode cX3_changeSetting 31 = .ok (.ireturn, 1) := by decide +kernel
theorem dX3_changeSetting_32 : decode cX3_changeSetting 32 = .ok (.aload_n 0, 1) := by decide +kernel
theorem dX3_changeSetting_33 : decode cX3_changeSetting 33 = .ok (.getfield 12, 3) := by decide +kernel
theorem dX3_changeSetting_36 : decode cX3_changeSetting 36 = .ok (.getfield 63, 3) := by decide +kernel
theorem dX3_changeSetting_39 : decode cX3_changeSetting 39 = .ok (.iload_n 1, 1) := by decide +kernel
theorem dX3_changeSetting_40 : decode cX3_changeSetting 40 = .ok (.iaload, 1) := by decide +kernel
theorem dX3_changeSetting_41 : decode cX3_changeSetting 41 = .ok (.istore_n 3, 1) := by decide +kernel
theorem dX3_changeSetting_42 : decode cX3_changeSetting 42 = .ok (.aload_n 0, 1) := by decide +kernel
theorem dX3_changeSetting_43 : decode cX3_changeSetting 43 = .ok (.getfield 12, 3) := by decide +kernel
theorem dX3_changeSetting_46 : decode cX3_changeSetting 46 = .ok (.getfield 63, 3) := by decide +kernel
theorem dX3_changeSetting_49 : decode cX3_changeSetting 49 = .ok (.iload_n 1, 1) := by decide +kernel
theorem dX3_changeSetting_50 : decode cX3_changeSetting 50 = .ok (.iload_n 2, 1) := by decide +kernel
theorem dX3_changeSetting_51 : decode cX3_changeSetting 51 = .ok (.iastore, 1) := by decide +kernel
theorem dX3_changeSetting_52 : decode cX3_changeSetting 52 = .ok (.iload_n 3, 1) := by decide +kernel
theorem dX3_changeSetting_53 : decode cX3_changeSetting 53 = .ok (.ireturn, 1) := by decide +kernel
set_option maxRecDepth 20000 in
theorem ggX3_letCome_X3_isWithin : GoodIn wsX3_letCome wsX3_isWithin := goodIn_r _ [7] (by decide +kernel) (by decide +kernel)
set_option maxRecDepth 20000 in
theorem gX3_letCome_X3_isWithin : GoodIn wsX3_letCome (va_wsS RX3 59 yX3_isWithin wsX3_isWithin) := goodIn_app (goodIn_of _ (by decide +kernel)) ggX3_letCome_X3_isWithin
set_option maxRecDepth 20000 in
theorem ggX3_letCome_X3_firstShelfFor : GoodIn wsX3_letCome wsX3_firstShelfFor := goodIn_r _ [10] (by decide +kernel) (by decide +kernel)
set_option maxRecDepth 20000 in
theorem gX3_letCome_X3_firstShelfFor : GoodIn wsX3_letCome (va_wsS RX3 177 yX3_firstShelfFor wsX3_firstShelfFor) := goodIn_app (goodIn_of _ (by decide +kernel)) ggX3_letCome_X3_firstShelfFor
set_option maxRecDepth 20000 in
theorem ggX3_letCome_X1_placeToGive : GoodIn wsX3_letCome wsX1_placeToGive := goodIn_r _ [15, 16, 17, 18, 14, 19, 20, 21, 22, 23, 24, 25, 26, 6, 27, 28, 29, 30, 31, 32, 33, 34, 35, 74, 75, 76, 77, 78, 79, 80, 81, 82, 83, 84, 85, 86, 87] (by decide +kernel) (by decide +kernel)
set_option maxRecDepth 20000 in
theorem gX3_letCome_X1_placeToGive : GoodIn wsX3_letCome (wsV RX3 180 RX1 yX1_placeToGive wsX1_placeToGive) := goodIn_app (goodIn_of _ (by decide +kernel)) ggX3_letCome_X1_placeToGive
set_option maxRecDepth 20000 in
theorem ggX3_letCome_X3_refuseForNoPlace : GoodIn wsX3_letCome wsX3_refuseForNoPlace := goodIn_r _ [39, 1, 40, 41, 42, 14, 43, 16, 17, 18, 19, 20, 44, 45, 46, 6, 47, 48, 49, 66, 67, 68, 69, 70, 71, 72, 73, 74, 75, 76, 77, 78, 79, 80, 81, 82, 83, 84, 85, 86, 87] (by decide +kernel) (by decide +kernel)
set_option maxRecDepth 20000 in
theorem gX3_letCome_X3_refuseForNoPlace : GoodIn wsX3_letCome (wsV RX3 227 RX3 yX3_refuseForNoPlace wsX3_refuseForNoPlace) := goodIn_app (goodIn_of _ (by decide +kernel)) ggX3_letCome_X3_refuseForNoPlace
set_option maxRecDepth 20000 in
theorem ggX3_letCome_X1_put : GoodIn wsX3_letCome wsX1_put := goodIn_r _ [53, 20, 25, 54, 55, 56, 26, 6, 27, 74, 75, 76, 77, 78, 79, 80, 81, 82, 83, 84, 85, 86, 87] (by decide +kernel) (by decide +kernel)
set_option maxRecDepth 20000 in
theorem gX3_letCome_X1_put : GoodIn wsX3_letCome (wsV RX3 231 RX1 yX1_put wsX1_put) := goodIn_app (goodIn_of _ (by decide +kernel)) ggX3_letCome_X1_put
set_option maxRecDepth 20000 in
theorem ggX3_letCome_X1_codeOn : GoodIn wsX3_letCome wsX1_codeOn := goodIn_r _ [60, 20, 61, 6, 62, 63, 64, 65, 74, 75, 76, 77, 78, 79, 80, 81, 82, 83, 84, 85, 86, 87] (by decide +kernel) (by decide +kernel)
set_option maxRecDepth 20000 in
theorem gX3_letCome_X1_codeOn : GoodIn wsX3_letCome (wsV RX3 111 RX1 yX1_codeOn wsX1_codeOn) := goodIn_app (goodIn_of _ (by decide +kernel)) ggX3_letCome_X1_codeOn
theorem dX3_letCome_0 : decode cX3_letCome 0 = .ok (.iload_n 1, 1) := by decide +kernel
theorem dX3_letCome_1 : decode cX3_letCome 1 = .ok (.iconst 0, 1) := by decide +kernel
theorem dX3_letCome_2 : decode cX3_letCome 2 = .ok (.bipush 9, 2) := by decide +kernel
theorem dX3_letCome_4 : decode cX3_letCome 4 = .ok (.invokestatic 59, 3) := by decide +kernel
theorem dX3_letCome_7 : decode cX3_letCome 7 = .ok (.ifCond .ne 5, 3) := by decide +kernel
theorem dX3_letCome_10 : decode cX3_letCome 10 = .ok (.iconst (-1), 1) := by decide +kernel
theorem dX3_letCome_11 : decode cX3_letCome 11 = .ok (.ireturn, 1) := by decide +kernel
theorem dX3_letCome_12 : decode cX3_letCome 12 = .ok (.iload_n 2, 1) := by decide +kernel
theorem dX3_letCome_13 : decode cX3_letCome 13 = .ok (.iconst 0, 1) := by decide +kernel
theorem dX3_letCome_14 : decode cX3_letCome 14 = .ok (.iconst 2, 1) := by decide +kernel
theorem dX3_letCome_15 : decode cX3_letCome 15 = .ok (.invokestatic 59, 3) := by decide +kernel
theorem dX3_letCome_18 : decode cX3_letCome 18 = .ok (.ifCond .ne 6, 3) := by decide +kernel
theorem dX3_letCome_21 : decode cX3_letCome 21 = .ok (.bipush (-2), 2) := by decide +kernel
theorem dX3_letCome_23 : decode cX3_letCome 23 = .ok (.ireturn, 1) := by decide +kernel
theorem dX3_letCome_24 : decode cX3_letCome 24 = .ok (.aload_n 0, 1) := by decide +kernel
theorem dX3_letCome_25 : decode cX3_letCome 25 = .ok (.getfield 12, 3) := by decide +kernel
theorem dX3_letCome_28 : decode cX3_letCome 28 = .ok (.iload_n 2, 1) := by decide +kernel
theorem dX3_letCome_29 : decode cX3_letCome 29 = .ok (.invokestatic 177, 3) := by decide +kernel
theorem dX3_letCome_32 : decode cX3_letCome 32 = .ok (.iconst 5, 1) := by decide +kernel
theorem dX3_letCome_33 : decode cX3_letCome 33 = .ok (.invokevirtual 180, 3) := by decide +kernel
theorem dX3_letCome_36 : decode cX3_letCome 36 = .ok (.istore_n 3, 1) := by decide +kernel
theorem dX3_letCome_37 : decode cX3_letCome 37 = .ok (.iload_n 3, 1) := by decide +kernel
theorem dX3_letCome_38 : decode cX3_letCome 38 = .ok (.iconst (-1), 1) := by decide +kernel
theorem dX3_letCome_39 : decode cX3_letCome 39 = .ok (.if_icmp .ne 15, 3) := by decide +kernel
theorem dX3_letCome_42 : decode cX3_letCome 42 = .ok (.aload_n 0, 1) := by decide +kernel
theorem dX3_letCome_43 : decode cX3_letCome 43 = .ok (.iload_n 2, 1) := by decide +kernel
theorem dX3_letCome_44 : decode cX3_letCome 44 = .ok (.invokestatic 177, 3) := by decide +kernel
theorem dX3_letCome_47 : decode cX3_letCome 47 = .ok (.iconst 5, 1) := by decide +kernel
theorem dX3_letCome_48 : decode cX3_letCome 48 = .ok (.invokevirtual 227, 3) := by decide +kernel
theorem dX3_letCome_51 : decode cX3_letCome 51 = .ok (.bipush (-4), 2) := by decide +kernel
theorem dX3_letCome_53 : decode cX3_letCome 53 = .ok (.ireturn, 1) := by decide +kernel
theorem dX3_letCome_54 : decode cX3_letCome 54 = .ok (.aload_n 0, 1) := by decide +kernel
theorem dX3_letCome_55 : decode cX3_letCome 55 = .ok (.getfield 12, 3) := by decide +kernel
theorem dX3_letCome_58 : decode cX3_letCome 58 = .ok (.iload_n 3, 1) := by decide +kernel
theorem dX3_letCome_59 : decode cX3_letCome 59 = .ok (.iload_n 1, 1) := by decide +kernel
theorem dX3_letCome_60 : decode cX3_letCome 60 = .ok (.iload_n 2, 1) := by decide +kernel
theorem dX3_letCome_61 : decode cX3_letCome 61 = .ok (.aload_n 0, 1) := by decide +kernel
theorem dX3_letCome_62 : decode cX3_letCome 62 = .ok (.getfield 12, 3) := by decide +kernel
theorem dX3_letCome_65 : decode cX3_letCome 65 = .ok (.getfield 85, 3) := by decide +kernel
theorem dX3_letCome_68 : decode cX3_letCome 68 = .ok (.invokevirtual 231, 3) := by decide +kernel
theorem dX3_letCome_71 : decode cX3_letCome 71 = .ok (.aload_n 0, 1) := by decide +kernel
theorem dX3_letCome_72 : decode cX3_letCome 72 = .ok (.getfield 12, 3) := by decide +kernel
theorem dX3_letCome_75 : decode cX3_letCome 75 = .ok (.dup, 1) := by decide +kernel
theorem dX3_letCome_76 : decode cX3_letCome 76 = .ok (.getfield 146, 3) := by decide +kernel
theorem dX3_letCome_79 : decode cX3_letCome 79 = .ok (.iconst 1, 1) := by decide +kernel
theorem dX3_letCome_80 : decode cX3_letCome 80 = .ok (.iadd, 1) := by decide +kernel
theorem dX3_letCome_81 : decode cX3_letCome 81 = .ok (.putfield 146, 3) := by decide +kernel
theorem dX3_letCome_84 : decode cX3_letCome 84 = .ok (.aload_n 0, 1) := by decide +kernel
theorem dX3_letCome_85 : decode cX3_letCome 85 = .ok (.getfield 12, 3) := by decide +kernel
theorem dX3_letCome_88 : decode cX3_letCome 88 = .ok (.iload_n 3, 1) := by decide +kernel
theorem dX3_letCome_89 : decode cX3_letCome 89 = .ok (.invokevirtual 111, 3) := by decide +kernel
theorem dX3_letCome_92 : decode cX3_letCome 92 = .ok (.ireturn, 1) := by decide +kernel
set_option maxRecDepth 20000 in
theorem ggX3_letFetch_X3_isWithin : GoodIn wsX3_letFetch wsX3_isWithin := goodIn_r _ [9] (by decide +kernel) (by decide +kernel)
set_option maxRecDepth 20000 in
theorem gX3_letFetch_X3_isWithin : GoodIn wsX3_letFetch (va_wsS RX3 59 yX3_isWithin wsX3_isWithin) := goodIn_app (goodIn_of _ (by decide +kernel)) ggX3_letFetch_X3_isWithin
set_option maxRecDepth 20000 in
theorem ggX3_letFetch_X1_isLocked : GoodIn wsX3_letFetch wsX1_isLocked := goodIn_r _ [14, 15, 63, 64, 65, 66, 67, 68, 69, 70, 71, 72, 73, 74, 75, 76] (by decide +kernel) (by decide +kernel)
set_option maxRecDepth 20000 in
theorem gX3_letFetch_X1_isLocked : GoodIn wsX3_letFetch (wsV RX3 155 RX1 yX1_isLocked wsX1_isLocked) := goodIn_app (goodIn_of _ (by decide +kernel)) ggX3_letFetch_X1_isLocked
set_option maxRecDepth 20000 in
theorem ggX3_letFetch_X3_refuseFor : GoodIn wsX3_letFetch wsX3_refuseFor := goodIn_r _ [19, 20, 21, 55, 56, 57, 58, 59, 60, 61, 62] (by decide +kernel) (by decide +kernel)
set_option maxRecDepth 20000 in
theorem gX3_letFetch_X3_refuseFor : GoodIn wsX3_letFetch (wsV RX3 235 RX3 yX3_refuseFor wsX3_refuseFor) := goodIn_app (goodIn_of _ (by decide +kernel)) ggX3_letFetch_X3_refuseFor
set_option maxRecDepth 20000 in
theorem ggX3_letFetch_X1_placeWith : GoodIn wsX3_letFetch wsX1_placeWith := goodIn_r _ [25, 26, 27, 8, 28, 6, 7, 9, 29, 30, 31, 32, 33, 34, 35, 36, 37, 63, 64, 65, 66, 67, 68, 69, 70, 71, 72, 73, 74, 75, 76] (by decide +kernel) (by decide +kernel)
set_option maxRecDepth 20000 in
theorem gX3_letFetch_X1_placeWith : GoodIn wsX3_letFetch (wsV RX3 88 RX1 yX1_placeWith wsX1_placeWith) := goodIn_app (goodIn_of _ (by decide +kernel)) ggX3_letFetch_X1_placeWith
set_option maxRecDepth 20000 in
theorem ggX3_letFetch_X1_feeAfter : GoodIn wsX3_letFetch wsX1_feeAfter := goodIn_r _ [41, 42, 43, 44, 45, 46, 47, 48, 49, 63, 64, 65, 66, 67, 68, 69, 70, 71, 72, 73, 74, 75, 76] (by decide +kernel) (by decide +kernel)
set_option maxRecDepth 20000 in
theorem gX3_letFetch_X1_feeAfter : GoodIn wsX3_letFetch (wsV RX3 100 RX1 yX1_feeAfter wsX1_feeAfter) := goodIn_app (goodIn_of _ (by decide +kernel)) ggX3_letFetch_X1_feeAfter
set_option maxRecDepth 20000 in
theorem ggX3_letFetch_X1_leave : GoodIn wsX3_letFetch wsX1_leave := goodIn_r _ [53, 26, 54, 42, 36, 8, 37, 63, 64, 65, 66, 67, 68, 69, 70, 71, 72, 73, 74, 75, 76] (by decide +kernel) (by decide +kernel)
set_option maxRecDepth 20000 in
theorem gX3_letFetch_X1_leave : GoodIn wsX3_letFetch (wsV RX3 238 RX1 yX1_leave wsX1_leave) := goodIn_app (goodIn_of _ (by decide +kernel)) ggX3_letFetch_X1_leave
theorem dX3_letFetch_0 : decode cX3_letFetch 0 = .ok (.iload_n 1, 1) := by decide +kernel
theorem dX3_letFetch_1 : decode cX3_letFetch 1 = .ok (.iconst 0, 1) := by decide +kernel
theorem dX3_letFetch_2 : decode cX3_letFetch 2 = .ok (.sipush 9999, 3) := by decide +kernel
theorem dX3_letFetch_5 : decode cX3_letFetch 5 = .ok (.invokestatic 59, 3) := by decide +kernel
theorem dX3_letFetch_8 : decode cX3_letFetch 8 = .ok (.ifCond .ne 6, 3) := by decide +kernel
theorem dX3_letFetch_11 : decode cX3_letFetch 11 = .ok (.bipush (-2), 2) := by decide +kernel
theorem dX3_letFetch_13 : decode cX3_letFetch 13 = .ok (.ireturn, 1) := by decide +kernel
theorem dX3_letFetch_14 : decode cX3_letFetch 14 = .ok (.aload_n 0, 1) := by decide +kernel
theorem dX3_letFetch_15 : decode cX3_letFetch 15 = .ok (.getfield 12, 3) := by decide +kernel
theorem dX3_letFetch_18 : decode cX3_letFetch 18 = .ok (.invokevirtual 155, 3) := by decide +kernel
theorem dX3_letFetch_21 : decode cX3_letFetch 21 = .ok (.ifCond .eq 13, 3) := by decide +kernel
theorem dX3_letFetch_24 : decode cX3_letFetch 24 = .ok (.aload_n 0, 1) := by decide +kernel
theorem dX3_letFetch_25 : decode cX3_letFetch 25 = .ok (.iconst 2, 1) := by decide +kernel
theorem dX3_letFetch_26 : decode cX3_letFetch 26 = .ok (.bipush (-6), 2) := by decide +kernel
theorem dX3_letFetch_28 : decode cX3_letFetch 28 = .ok (.invokevirtual 235, 3) := by decide +kernel
theorem dX3_letFetch_31 : decode cX3_letFetch 31 = .ok (.bipush (-3), 2) := by decide +kernel
theorem dX3_letFetch_33 : decode cX3_letFetch 33 = .ok (.ireturn, 1) := by decide +kernel
theorem dX3_letFetch_34 : decode cX3_letFetch 34 = .ok (.aload_n 0, 1) := by decide +kernel
theorem dX3_letFetch_35 : decode cX3_letFetch 35 = .ok (.getfield 12, 3) := by decide +kernel
theorem dX3_letFetch_38 : decode cX3_letFetch 38 = .ok (.iload_n 1, 1) := by decide +kernel
theorem dX3_letFetch_39 : decode cX3_letFetch 39 = .ok (.invokevirtual 88, 3) := by decide +kernel
theorem dX3_letFetch_42 : decode cX3_letFetch 42 = .ok (.istore_n 2, 1) := by decide +kernel
theorem dX3_letFetch_43 : decode cX3_letFetch 43 = .ok (.iload_n 2, 1) := by decide +kernel
theorem dX3_letFetch_44 : decode cX3_letFetch 44 = .ok (.iconst (-1), 1) := by decide +kernel
theorem dX3_letFetch_45 : decode cX3_letFetch 45 = .ok (.if_icmp .ne 19, 3) := by decide +kernel
theorem dX3_letFetch_48 : decode cX3_letFetch 48 = .ok (.aload_n 0, 1) := by decide +kernel
theorem dX3_letFetch_49 : decode cX3_letFetch 49 = .ok (.getfield 12, 3) := by decide +kernel
theorem dX3_letFetch_52 : decode cX3_letFetch 52 = .ok (.dup, 1) := by decide +kernel
theorem dX3_letFetch_53 : decode cX3_letFetch 53 = .ok (.getfield 152, 3) := by decide +kernel
theorem dX3_letFetch_56 : decode cX3_letFetch 56 = .ok (.iconst 1, 1) := by decide +kernel
theorem dX3_letFetch_57 : decode cX3_letFetch 57 = .ok (.iadd, 1) := by decide +kernel
theorem dX3_letFetch_58 : decode cX3_letFetch 58 = .ok (.putfield 152, 3) := by decide +kernel
theorem dX3_letFetch_61 : decode cX3_letFetch 61 = .ok (.bipush (-7), 2) := by decide +kernel
theorem dX3_letFetch_63 : decode cX3_letFetch 63 = .ok (.ireturn, 1) := by decide +kernel
theorem dX3_letFetch_64 : decode cX3_letFetch 64 = .ok (.aload_n 0, 1) := by decide +kernel
theorem dX3_letFetch_65 : decode cX3_letFetch 65 = .ok (.getfield 12, 3) := by decide +kernel
theorem dX3_letFetch_68 : decode cX3_letFetch 68 = .ok (.iload_n 2, 1) := by decide +kernel
theorem dX3_letFetch_69 : decode cX3_letFetch 69 = .ok (.iconst 0, 1) := by decide +kernel
theorem dX3_letFetch_70 : decode cX3_letFetch 70 = .ok (.invokevirtual 100, 3) := by decide +kernel
theorem dX3_letFetch_73 : decode cX3_letFetch 73 = .ok (.istore_n 3, 1) := by decide +kernel
theorem dX3_letFetch_74 : decode cX3_letFetch 74 = .ok (.aload_n 0, 1) := by decide +kernel
theorem dX3_letFetch_75 : decode cX3_letFetch 75 = .ok (.getfield 12, 3) := by decide +kernel
theorem dX3_letFetch_78 : decode cX3_letFetch 78 = .ok (.dup, 1) := by decide +kernel
theorem dX3_letFetch_79 : decode cX3_letFetch 79 = .ok (.getfield 149, 3) := by decide +kernel
theorem dX3_letFetch_82 : decode cX3_letFetch 82 = .ok (.iload_n 3, 1) := by decide +kernel
theorem dX3_letFetch_83 : decode cX3_letFetch 83 = .ok (.iadd, 1) := by decide +kernel
theorem dX3_letFetch_84 : decode cX3_letFetch 84 = .ok (.putfield 149, 3) := by decide +kernel
theorem dX3_letFetch_87 : decode cX3_letFetch 87 = .ok (.aload_n 0, 1) := by decide +kernel
theorem dX3_letFetch_88 : decode cX3_letFetch 88 = .ok (.getfield 12, 3) := by decide +kernel
theorem dX3_letFetch_91 : decode cX3_letFetch 91 = .ok (.getfield 132, 3) := by decide +kernel
theorem dX3_letFetch_94 : decode cX3_letFetch 94 = .ok (.aload_n 0, 1) := by decide +kernel
theorem dX3_letFetch_95 : decode cX3_letFetch 95 = .ok (.getfield 12, 3) := by decide +kernel
theorem dX3_letFetch_98 : decode cX3_letFetch 98 = .ok (.getfield 91, 3) := by decide +kernel
theorem dX3_letFetch_101 : decode cX3_letFetch 101 = .ok (.iload_n 2, 1) := by decide +kernel
theorem dX3_letFetch_102 : decode cX3_letFetch 102 = .ok (.iaload, 1) := by decide +kernel
theorem dX3_letFetch_103 : decode cX3_letFetch 103 = .ok (.dup2, 1) := by decide +kernel
theorem dX3_letFetch_104 : decode cX3_letFetch 104 = .ok (.iaload, 1) := by decide +kernel
theorem dX3_letFetch_105 : decode cX3_letFetch 105 = .ok (.iconst 1, 1) := by decide +kernel
theorem dX3_letFetch_106 : decode cX3_letFetch 106 = .ok (.iadd, 1) := by decide +kernel
theorem dX3_letFetch_107 : decode cX3_letFetch 107 = .ok (.iastore, 1) := by decide +kernel
theorem dX3_letFetch_108 : decode cX3_letFetch 108 = .ok (.aload_n 0, 1) := by decide +kernel
theorem dX3_letFetch_109 : decode cX3_letFetch 109 = .ok (.getfield 12, 3) := by decide +kernel
theorem dX3_letFetch_112 : decode cX3_letFetch 112 = .ok (.iload_n 2, 1) := by decide +kernel
theorem dX3_letFetch_113 : decode cX3_letFetch 113 = .ok (.invokevirtual 238, 3) := by decide +kernel
theorem dX3_letFetch_116 : decode cX3_letFetch 116 = .ok (.iload_n 3, 1) := by decide +kernel
theorem dX3_letFetch_117 : decode cX3_letFetch 117 = .ok (.ireturn, 1) := by decide +kernel
set_option maxRecDepth 20000 in
theorem ggX3_letRefuse_X1_placeWith : GoodIn wsX3_letRefuse wsX1_placeWith := goodIn_r _ [8, 9, 10, 11, 12, 13, 14, 15, 16, 17, 18, 19, 20, 21, 22, 23, 24, 55, 56, 57, 58, 59, 60, 61, 62, 63, 64, 65, 66, 67, 68] (by decide +kernel) (by decide +kernel)
set_option maxRecDepth 20000 in
theorem gX3_letRefuse_X1_placeWith : GoodIn wsX3_letRefuse (wsV RX3 88 RX1 yX1_placeWith wsX1_placeWith) := goodIn_app (goodIn_of _ (by decide +kernel)) ggX3_letRefuse_X1_placeWith
set_option maxRecDepth 20000 in
theorem ggX3_letRefuse_X3_refuseForNoParcel : GoodIn wsX3_letRefuse wsX3_refuseForNoParcel := goodIn_r _ [28, 1, 29, 10, 11, 12, 13, 14, 15, 16, 17, 18, 19, 20, 21, 22, 23, 24, 30, 31, 32, 7, 33, 34, 35, 36, 37, 38, 39, 40, 41, 42, 47, 48, 49, 50, 51, 52, 53, 54, 55, 56, 57, 58, 59, 60, 61, 62, 63, 64, 65, 66, 67, 68] (by decide +kernel) (by decide +kernel)
set_option maxRecDepth 20000 in
theorem gX3_letRefuse_X3_refuseForNoParcel : GoodIn wsX3_letRefuse (wsV RX3 242 RX3 yX3_refuseForNoParcel wsX3_refuseForNoParcel) := goodIn_app (goodIn_of _ (by decide +kernel)) ggX3_letRefuse_X3_refuseForNoParcel
set_option maxRecDepth 20000 in
theorem ggX3_letRefuse_X3_refuseFor : GoodIn wsX3_letRefuse wsX3_refuseFor := goodIn_r _ [40, 41, 42, 47, 48, 49, 50, 51, 52, 53, 54] (by decide +kernel) (by decide +kernel)
set_option maxRecDepth 20000 in
theorem gX3_letRefuse_X3_refuseFor : GoodIn wsX3_letRefuse (wsV RX3 235 RX3 yX3_refuseFor wsX3_refuseFor) := goodIn_app (goodIn_of _ (by decide +kernel)) ggX3_letRefuse_X3_refuseFor
set_option maxRecDepth 20000 in
theorem ggX3_letRefuse_X1_leave : GoodIn wsX3_letRefuse wsX1_leave := goodIn_r _ [46, 9, 34, 35, 23, 11, 24, 55, 56, 57, 58, 59, 60, 61, 62, 63, 64, 65, 66, 67, 68] (by decide +kernel) (by decide +kernel)
set_option maxRecDepth 20000 in
theorem gX3_letRefuse_X1_leave : GoodIn wsX3_letRefuse (wsV RX3 238 RX1 yX1_leave wsX1_leave) := goodIn_app (goodIn_of _ (by decide +kernel)) ggX3_letRefuse_X1_leave
theorem dX3_letRefuse_0 : decode cX3_letRefuse 0 = .ok (.aload_n 0, 1) := by decide +kernel
theorem dX3_letRefuse_1 : decode cX3_letRefuse 1 = .ok (.getfield 12, 3) := by decide +kernel
theorem dX3_letRefuse_4 : decode cX3_letRefuse 4 = .ok (.iload_n 1, 1) := by decide +kernel
theorem dX3_letRefuse_5 : decode cX3_letRefuse 5 = .ok (.invokevirtual 88, 3) := by decide +kernel
theorem dX3_letRefuse_8 : decode cX3_letRefuse 8 = .ok (.istore_n 2, 1) := by decide +kernel
theorem dX3_letRefuse_9 : decode cX3_letRefuse 9 = .ok (.iload_n 2, 1) := by decide +kernel
theorem dX3_letRefuse_10 : decode cX3_letRefuse 10 = .ok (.iconst (-1), 1) := by decide +kernel
theorem dX3_letRefuse_11 : decode cX3_letRefuse 11 = .ok (.if_icmp .ne 10, 3) := by decide +kernel
theorem dX3_letRefuse_14 : decode cX3_letRefuse 14 = .ok (.aload_n 0, 1) := by decide +kernel
theorem dX3_letRefuse_15 : decode cX3_letRefuse 15 = .ok (.iload_n 1, 1) := by decide +kernel
theorem dX3_letRefuse_16 : decode cX3_letRefuse 16 = .ok (.invokevirtual 242, 3) := by decide +kernel
theorem dX3_letRefuse_19 : decode cX3_letRefuse 19 = .ok (.iconst (-1), 1) := by decide +kernel
theorem dX3_letRefuse_20 : decode cX3_letRefuse 20 = .ok (.ireturn, 1) := by decide +kernel
theorem dX3_letRefuse_21 : decode cX3_letRefuse 21 = .ok (.aload_n 0, 1) := by decide +kernel
theorem dX3_letRefuse_22 : decode cX3_letRefuse 22 = .ok (.getfield 12, 3) := by decide +kernel
theorem dX3_letRefuse_25 : decode cX3_letRefuse 25 = .ok (.getfield 91, 3) := by decide +kernel
theorem dX3_letRefuse_28 : decode cX3_letRefuse 28 = .ok (.iload_n 2, 1) := by decide +kernel
theorem dX3_letRefuse_29 : decode cX3_letRefuse 29 = .ok (.iaload, 1) := by decide +kernel
theorem dX3_letRefuse_30 : decode cX3_letRefuse 30 = .ok (.istore_n 3, 1) := by decide +kernel
theorem dX3_letRefuse_31 : decode cX3_letRefuse 31 = .ok (.aload_n 0, 1) := by decide +kernel
theorem dX3_letRefuse_32 : decode cX3_letRefuse 32 = .ok (.getfield 12, 3) := by decide +kernel
theorem dX3_letRefuse_35 : decode cX3_letRefuse 35 = .ok (.getfield 126, 3) := by decide +kernel
theorem dX3_letRefuse_38 : decode cX3_letRefuse 38 = .ok (.iload_n 3, 1) := by decide +kernel
theorem dX3_letRefuse_39 : decode cX3_letRefuse 39 = .ok (.iaload, 1) := by decide +kernel
theorem dX3_letRefuse_40 : decode cX3_letRefuse 40 = .ok (.bipush 9, 2) := by decide +kernel
theorem dX3_letRefuse_42 : decode cX3_letRefuse 42 = .ok (.if_icmp .lt 13, 3) := by decide +kernel
theorem dX3_letRefuse_45 : decode cX3_letRefuse 45 = .ok (.aload_n 0, 1) := by decide +kernel
theorem dX3_letRefuse_46 : decode cX3_letRefuse 46 = .ok (.iconst 3, 1) := by decide +kernel
theorem dX3_letRefuse_47 : decode cX3_letRefuse 47 = .ok (.bipush (-6), 2) := by decide +kernel
theorem dX3_letRefuse_49 : decode cX3_letRefuse 49 = .ok (.invokevirtual 235, 3) := by decide +kernel
theorem dX3_letRefuse_52 : decode cX3_letRefuse 52 = .ok (.bipush (-3), 2) := by decide +kernel
theorem dX3_letRefuse_54 : decode cX3_letRefuse 54 = .ok (.ireturn, 1) := by decide +kernel
theorem dX3_letRefuse_55 : decode cX3_letRefuse 55 = .ok (.aload_n 0, 1) := by decide +kernel
theorem dX3_letRefuse_56 : decode cX3_letRefuse 56 = .ok (.getfield 12, 3) := by decide +kernel
theorem dX3_letRefuse_59 : decode cX3_letRefuse 59 = .ok (.iload_n 2, 1) := by decide +kernel
theorem dX3_letRefuse_60 : decode cX3_letRefuse 60 = .ok (.invokevirtual 238, 3) := by decide +kernel
theorem dX3_letRefuse_63 : decode cX3_letRefuse 63 = .ok (.aload_n 0, 1) := by decide +kernel
theorem dX3_letRefuse_64 : decode cX3_letRefuse 64 = .ok (.getfield 12, 3) := by decide +kernel
theorem dX3_letRefuse_67 : decode cX3_letRefuse 67 = .ok (.getfield 126, 3) := by decide +kernel
theorem dX3_letRefuse_70 : decode cX3_letRefuse 70 = .ok (.iload_n 3, 1) := by decide +kernel
theorem dX3_letRefuse_71 : decode cX3_letRefuse 71 = .ok (.dup2, 1) := by decide +kernel
theorem dX3_letRefuse_72 : decode cX3_letRefuse 72 = .ok (.iaload, 1) := by decide +kernel
theorem dX3_letRefuse_73 : decode cX3_letRefuse 73 = .ok (.iconst 1, 1) := by decide +kernel
theorem dX3_letRefuse_74 : decode cX3_letRefuse 74 = .ok (.iadd, 1) := by decide +kernel
theorem dX3_letRefuse_75 : decode cX3_letRefuse 75 = .ok (.iastore, 1) := by decide +kernel
theorem dX3_letRefuse_76 : decode cX3_letRefuse 76 = .ok (.aload_n 0, 1) := by decide +kernel
theorem dX3_letRefuse_77 : decode cX3_letRefuse 77 = .ok (.getfield 12, 3) := by decide +kernel
theorem dX3_letRefuse_80 : decode cX3_letRefuse 80 = .ok (.getfield 126, 3) := by decide +kernel
theorem dX3_letRefuse_83 : decode cX3_letRefuse 83 = .ok (.iload_n 3, 1) := by decide +kernel
theorem dX3_letRefuse_84 : decode cX3_letRefuse 84 = .ok (.iaload, 1) := by decide +kernel
theorem dX3_letRefuse_85 : decode cX3_letRefuse 85 = .ok (.ireturn, 1) := by decide +kernel
set_option maxRecDepth 20000 in
theorem ggX3_moveParcel_X1_placeWith : GoodIn wsX3_moveParcel wsX1_placeWith := goodIn_r _ [9, 10, 11, 12, 13, 14, 15, 16, 17, 18, 19, 20, 21, 22, 23, 24, 25, 95, 96, 97, 98, 99, 100, 101, 102, 103, 104, 105, 106, 107, 108] (by decide +kernel) (by decide +kernel)
set_option maxRecDepth 20000 in
theorem gX3_moveParcel_X1_placeWith : GoodIn wsX3_moveParcel (wsV RX3 88 RX1 yX1_placeWith wsX1_placeWith) := goodIn_app (goodIn_of _ (by decide +kernel)) ggX3_moveParcel_X1_placeWith
set_option maxRecDepth 20000 in
theorem ggX3_moveParcel_X3_refuseForNoParcel : GoodIn wsX3_moveParcel wsX3_refuseForNoParcel := goodIn_r _ [29, 1, 30, 11, 12, 13, 14, 15, 16, 17, 18, 19, 20, 21, 22, 23, 24, 25, 31, 32, 33, 8, 34, 35, 36, 37, 38, 39, 40, 41, 42, 43, 87, 88, 89, 90, 91, 92, 93, 94, 95, 96, 97, 98, 99, 100, 101, 102, 103, 104, 105, 106, 107, 108] (by decide +kernel) (by decide +kernel)
set_option maxRecDepth 20000 in
theorem gX3_moveParcel_X3_refuseForNoParcel : GoodIn wsX3_moveParcel (wsV RX3 242 RX3 yX3_refuseForNoParcel wsX3_refuseForNoParcel) := goodIn_app (goodIn_of _ (by decide +kernel)) ggX3_moveParcel_X3_refuseForNoParcel
set_option maxRecDepth 20000 in
theorem ggX3_moveParcel_X3_isWithin : GoodIn wsX3_moveParcel wsX3_isWithin := goodIn_r _ [16] (by decide +kernel) (by decide +kernel)
set_option maxRecDepth 20000 in
theorem gX3_moveParcel_X3_isWithin : GoodIn wsX3_moveParcel (va_wsS RX3 59 yX3_isWithin wsX3_isWithin) := goodIn_app (goodIn_of _ (by decide +kernel)) ggX3_moveParcel_X3_isWithin
set_option maxRecDepth 20000 in
theorem ggX3_moveParcel_X3_sizeOfShelf : GoodIn wsX3_moveParcel wsX3_sizeOfShelf := goodIn_r _ [46] (by decide +kernel) (by decide +kernel)
set_option maxRecDepth 20000 in
theorem gX3_moveParcel_X3_sizeOfShelf : GoodIn wsX3_moveParcel (va_wsS RX3 114 yX3_sizeOfShelf wsX3_sizeOfShelf) := goodIn_app (goodIn_of _ (by decide +kernel)) ggX3_moveParcel_X3_sizeOfShelf
set_option maxRecDepth 20000 in
theorem ggX3_moveParcel_X1_placeToGive : GoodIn wsX3_moveParcel wsX1_placeToGive := goodIn_r _ [50, 51, 52, 53, 8, 54, 10, 55, 56, 57, 58, 36, 59, 12, 60, 24, 25, 61, 32, 33, 34, 35, 37, 95, 96, 97, 98, 99, 100, 101, 102, 103, 104, 105, 106, 107, 108] (by decide +kernel) (by decide +kernel)
set_option maxRecDepth 20000 in
theorem gX3_moveParcel_X1_placeToGive : GoodIn wsX3_moveParcel (wsV RX3 180 RX1 yX1_placeToGive wsX1_placeToGive) := goodIn_app (goodIn_of _ (by decide +kernel)) ggX3_moveParcel_X1_placeToGive
set_option maxRecDepth 20000 in
theorem ggX3_moveParcel_X3_refuseForNoPlace : GoodIn wsX3_moveParcel wsX3_refuseForNoPlace := goodIn_r _ [65, 1, 66, 67, 68, 8, 69, 51, 52, 53, 54, 10, 38, 39, 40, 12, 41, 42, 43, 87, 88, 89, 90, 91, 92, 93, 94, 95, 96, 97, 98, 99, 100, 101, 102, 103, 104, 105, 106, 107, 108] (by decide +kernel) (by decide +kernel)
set_option maxRecDepth 20000 in
theorem gX3_moveParcel_X3_refuseForNoPlace : GoodIn wsX3_moveParcel (wsV RX3 227 RX3 yX3_refuseForNoPlace wsX3_refuseForNoPlace) := goodIn_app (goodIn_of _ (by decide +kernel)) ggX3_moveParcel_X3_refuseForNoPlace
set_option maxRecDepth 20000 in
theorem ggX3_moveParcel_X1_put : GoodIn wsX3_moveParcel wsX1_put := goodIn_r _ [73, 10, 36, 74, 75, 76, 59, 12, 60, 95, 96, 97, 98, 99, 100, 101, 102, 103, 104, 105, 106, 107, 108] (by decide +kernel) (by decide +kernel)
set_option maxRecDepth 20000 in
theorem gX3_moveParcel_X1_put : GoodIn wsX3_moveParcel (wsV RX3 231 RX1 yX1_put wsX1_put) := goodIn_app (goodIn_of _ (by decide +kernel)) ggX3_moveParcel_X1_put
set_option maxRecDepth 20000 in
theorem ggX3_moveParcel_X1_leave : GoodIn wsX3_moveParcel wsX1_leave := goodIn_r _ [80, 10, 35, 36, 24, 12, 25, 95, 96, 97, 98, 99, 100, 101, 102, 103, 104, 105, 106, 107, 108] (by decide +kernel) (by decide +kernel)
set_option maxRecDepth 20000 in
theorem gX3_moveParcel_X1_leave : GoodIn wsX3_moveParcel (wsV RX3 238 RX1 yX1_leave wsX1_leave) := goodIn_app (goodIn_of _ (by decide +kernel)) ggX3_moveParcel_X1_leave
set_option maxRecDepth 20000 in
theorem ggX3_moveParcel_X1_codeOn : GoodIn wsX3_moveParcel wsX1_codeOn := goodIn_r _ [84, 10, 85, 12, 86, 20, 21, 22, 95, 96, 97, 98, 99, 100, 101, 102, 103, 104, 105, 106, 107, 108] (by decide +kernel) (by decide +kernel)
set_option maxRecDepth 20000 in
theorem gX3_moveParcel_X1_codeOn : GoodIn wsX3_moveParcel (wsV RX3 111 RX1 yX1_codeOn wsX1_codeOn) := goodIn_app (goodIn_of _ (by decide +kernel)) ggX3_moveParcel_X1_codeOn
theorem dX3_moveParcel_0 : decode cX3_moveParcel 0 = .ok (.aload_n 0, 1) := by decide +kernel
theorem dX3_moveParcel_1 : decode cX3_moveParcel 1 = .ok (.getfield 12, 3) := by decide +kernel
theorem dX3_moveParcel_4 : decode cX3_moveParcel 4 = .ok (.iload_n 1, 1) := by decide +kernel
theorem dX3_moveParcel_5 : decode cX3_moveParcel 5 = .ok (.invokevirtual 88, 3) := by decide +kernel
theorem dX3_moveParcel_8 : decode cX3_moveParcel 8 = .ok (.istore_n 3, 1) := by decide +kernel
theorem dX3_moveParcel_9 : decode cX3_moveParcel 9 = .ok (.iload_n 3, 1) := by decide +kernel
theorem dX3_moveParcel_10 : decode cX3_moveParcel 10 = .ok (.iconst (-1), 1) := by decide +kernel
theorem dX3_moveParcel_11 : decode cX3_moveParcel 11 = .ok (.if_icmp .ne 10, 3) := by decide +kernel
theorem dX3_moveParcel_14 : decode cX3_moveParcel 14 = .ok (.aload_n 0, 1) := by decide +kernel
theorem dX3_moveParcel_15 : decode cX3_moveParcel 15 = .ok (.iload_n 1, 1) := by decide +kernel
theorem dX3_moveParcel_16 : decode cX3_moveParcel 16 = .ok (.invokevirtual 242, 3) := by decide +kernel
theorem dX3_moveParcel_19 : decode cX3_moveParcel 19 = .ok (.iconst (-1), 1) := by decide +kernel
theorem dX3_moveParcel_20 : decode cX3_moveParcel 20 = .ok (.ireturn, 1) := by decide +kernel
theorem dX3_moveParcel_21 : decode cX3_moveParcel 21 = .ok (.iload_n 2, 1) := by decide +kernel
theorem dX3_moveParcel_22 : decode cX3_moveParcel 22 = .ok (.iconst 0, 1) := by decide +kernel
theorem dX3_moveParcel_23 : decode cX3_moveParcel 23 = .ok (.iconst 5, 1) := by decide +kernel
theorem dX3_moveParcel_24 : decode cX3_moveParcel 24 = .ok (.invokestatic 59, 3) := by decide +kernel
theorem dX3_moveParcel_27 : decode cX3_moveParcel 27 = .ok (.ifCond .ne 5, 3) := by decide +kernel
theorem dX3_moveParcel_30 : decode cX3_moveParcel 30 = .ok (.iconst (-1), 1) := by decide +kernel
theorem dX3_moveParcel_31 : decode cX3_moveParcel 31 = .ok (.ireturn, 1) := by decide +kernel
theorem dX3_moveParcel_32 : decode cX3_moveParcel 32 = .ok (.iload_n 2, 1) := by decide +kernel
theorem dX3_moveParcel_33 : decode cX3_moveParcel 33 = .ok (.iload_n 3, 1) := by decide +kernel
theorem dX3_moveParcel_34 : decode cX3_moveParcel 34 = .ok (.bipush 8, 2) := by decide +kernel
theorem dX3_moveParcel_36 : decode cX3_moveParcel 36 = .ok (.idiv, 1) := by decide +kernel
theorem dX3_moveParcel_37 : decode cX3_moveParcel 37 = .ok (.if_icmp .eq 19, 3) := by decide +kernel
theorem dX3_moveParcel_40 : decode cX3_moveParcel 40 = .ok (.iload_n 2, 1) := by decide +kernel
theorem dX3_moveParcel_41 : decode cX3_moveParcel 41 = .ok (.invokestatic 114, 3) := by decide +kernel
theorem dX3_moveParcel_44 : decode cX3_moveParcel 44 = .ok (.aload_n 0, 1) := by decide +kernel
theorem dX3_moveParcel_45 : decode cX3_moveParcel 45 = .ok (.getfield 12, 3) := by decide +kernel
theorem dX3_moveParcel_48 : decode cX3_moveParcel 48 = .ok (.getfield 94, 3) := by decide +kernel
theorem dX3_moveParcel_51 : decode cX3_moveParcel 51 = .ok (.iload_n 3, 1) := by decide +kernel
theorem dX3_moveParcel_52 : decode cX3_moveParcel 52 = .ok (.iaload, 1) := by decide +kernel
theorem dX3_moveParcel_53 : decode cX3_moveParcel 53 = .ok (.if_icmp .ge 6, 3) := by decide +kernel
theorem dX3_moveParcel_56 : decode cX3_moveParcel 56 = .ok (.bipush (-2), 2) := by decide +kernel
theorem dX3_moveParcel_58 : decode cX3_moveParcel 58 = .ok (.ireturn, 1) := by decide +kernel
theorem dX3_moveParcel_59 : decode cX3_moveParcel 59 = .ok (.aload_n 0, 1) := by decide +kernel
theorem dX3_moveParcel_60 : decode cX3_moveParcel 60 = .ok (.getfield 12, 3) := by decide +kernel
theorem dX3_moveParcel_63 : decode cX3_moveParcel 63 = .ok (.iload_n 2, 1) := by decide +kernel
theorem dX3_moveParcel_64 : decode cX3_moveParcel 64 = .ok (.iload_n 2, 1) := by decide +kernel
theorem dX3_moveParcel_65 : decode cX3_moveParcel 65 = .ok (.invokevirtual 180, 3) := by decide +kernel
theorem dX3_moveParcel_68 : decode cX3_moveParcel 68 = .ok (.istore 4, 2) := by decide +kernel
theorem dX3_moveParcel_70 : decode cX3_moveParcel 70 = .ok (.iload 4, 2) := by decide +kernel
theorem dX3_moveParcel_72 : decode cX3_moveParcel 72 = .ok (.iconst (-1), 1) := by decide +kernel
theorem dX3_moveParcel_73 : decode cX3_moveParcel 73 = .ok (.if_icmp .ne 12, 3) := by decide +kernel
theorem dX3_moveParcel_76 : decode cX3_moveParcel 76 = .ok (.aload_n 0, 1) := by decide +kernel
theorem dX3_moveParcel_77 : decode cX3_moveParcel 77 = .ok (.iload_n 2, 1) := by decide +kernel
theorem dX3_moveParcel_78 : decode cX3_moveParcel 78 = .ok (.iload_n 2, 1) := by decide +kernel
theorem dX3_moveParcel_79 : decode cX3_moveParcel 79 = .ok (.invokevirtual 227, 3) := by decide +kernel
theorem dX3_moveParcel_82 : decode cX3_moveParcel 82 = .ok (.bipush (-4), 2) := by decide +kernel
theorem dX3_moveParcel_84 : decode cX3_moveParcel 84 = .ok (.ireturn, 1) := by decide +kernel
theorem dX3_moveParcel_85 : decode cX3_moveParcel 85 = .ok (.aload_n 0, 1) := by decide +kernel
theorem dX3_moveParcel_86 : decode cX3_moveParcel 86 = .ok (.getfield 12, 3) := by decide +kernel
theorem dX3_moveParcel_89 : decode cX3_moveParcel 89 = .ok (.iload 4, 2) := by decide +kernel
theorem dX3_moveParcel_91 : decode cX3_moveParcel 91 = .ok (.aload_n 0, 1) := by decide +kernel
theorem dX3_moveParcel_92 : decode cX3_moveParcel 92 = .ok (.getfield 12, 3) := by decide +kernel
theorem dX3_moveParcel_95 : decode cX3_moveParcel 95 = .ok (.getfield 91, 3) := by decide +kernel
theorem dX3_moveParcel_98 : decode cX3_moveParcel 98 = .ok (.iload_n 3, 1) := by decide +kernel
theorem dX3_moveParcel_99 : decode cX3_moveParcel 99 = .ok (.iaload, 1) := by decide +kernel
theorem dX3_moveParcel_100 : decode cX3_moveParcel 100 = .ok (.aload_n 0, 1) := by decide +kernel
theorem dX3_moveParcel_101 : decode cX3_moveParcel 101 = .ok (.getfield 12, 3) := by decide +kernel
theorem dX3_moveParcel_104 : decode cX3_moveParcel 104 = .ok (.getfield 94, 3) := by decide +kernel
theorem dX3_moveParcel_107 : decode cX3_moveParcel 107 = .ok (.iload_n 3, 1) := by decide +kernel
theorem dX3_moveParcel_108 : decode cX3_moveParcel 108 = .ok (.iaload, 1) := by decide +kernel
theorem dX3_moveParcel_109 : decode cX3_moveParcel 109 = .ok (.aload_n 0, 1) := by decide +kernel
theorem dX3_moveParcel_110 : decode cX3_moveParcel 110 = .ok (.getfield 12, 3) := by decide +kernel
theorem dX3_moveParcel_113 : decode cX3_moveParcel 113 = .ok (.getfield 97, 3) := by decide +kernel
theorem dX3_moveParcel_116 : decode cX3_moveParcel 116 = .ok (.iload_n 3, 1) := by decide +kernel
theorem dX3_moveParcel_117 : decode cX3_moveParcel 117 = .ok (.iaload, 1) := by decide +kernel
theorem dX3_moveParcel_118 : decode cX3_moveParcel 118 = .ok (.invokevirtual 231, 3) := by decide +kernel
theorem dX3_moveParcel_121 : decode cX3_moveParcel 121 = .ok (.aload_n 0, 1) := by decide +kernel
theorem dX3_moveParcel_122 : decode cX3_moveParcel 122 = .ok (.getfield 12, 3) := by decide +kernel
theorem dX3_moveParcel_125 : decode cX3_moveParcel 125 = .ok (.iload_n 3, 1) := by decide +kernel
theorem dX3_moveParcel_126 : decode cX3_moveParcel 126 = .ok (.invokevirtual 238, 3) := by decide +kernel
theorem dX3_moveParcel_129 : decode cX3_moveParcel 129 = .ok (.aload_n 0, 1) := by decide +kernel
theorem dX3_moveParcel_130 : decode cX3_moveParcel 130 = .ok (.getfield 12, 3) := by decide +kernel
theorem dX3_moveParcel_133 : decode cX3_moveParcel 133 = .ok (.iload 4, 2) := by decide +kernel
theorem dX3_moveParcel_135 : decode cX3_moveParcel 135 = .ok (.invokevirtual 111, 3) := by decide +kernel
theorem dX3_moveParcel_138 : decode cX3_moveParcel 138 = .ok (.ireturn, 1) := by decide +kernel
set_option maxRecDepth 20000 in
theorem ggX3_letPass_X3_isWithin : GoodIn wsX3_letPass wsX3_isWithin := goodIn_r _ [6] (by decide +kernel) (by decide +kernel)
set_option maxRecDepth 20000 in
theorem gX3_letPass_X3_isWithin : GoodIn wsX3_letPass (va_wsS RX3 59 yX3_isWithin wsX3_isWithin) := goodIn_app (goodIn_of _ (by decide +kernel)) ggX3_letPass_X3_isWithin
set_option maxRecDepth 20000 in
theorem ggX3_letPass_X1_beginDay : GoodIn wsX3_letPass wsX1_beginDay := goodIn_r _ [11, 12, 13, 14, 15, 16, 10, 17, 18, 19, 20, 21, 22, 23, 24, 25, 26, 27, 28, 29, 30, 31, 32, 33, 34, 35, 36, 37, 38, 39, 40, 41, 42, 5, 43, 52, 53, 54, 55, 56, 57, 58, 59, 60, 61, 62, 63, 64, 65] (by decide +kernel) (by decide +kernel)
set_option maxRecDepth 20000 in
theorem gX3_letPass_X1_beginDay : GoodIn wsX3_letPass (wsV RX3 186 RX1 yX1_beginDay wsX1_beginDay) := goodIn_app (goodIn_of _ (by decide +kernel)) ggX3_letPass_X1_beginDay
theorem dX3_letPass_0 : decode cX3_letPass 0 = .ok (.iload_n 1, 1) := by decide +kernel
theorem dX3_letPass_1 : decode cX3_letPass 1 = .ok (.iconst 1, 1) := by decide +kernel
theorem dX3_letPass_2 : decode cX3_letPass 2 = .ok (.bipush 30, 2) := by decide +kernel
theorem dX3_letPass_4 : decode cX3_letPass 4 = .ok (.invokestatic 59, 3) := by decide +kernel
theorem dX3_letPass_7 : decode cX3_letPass 7 = .ok (.ifCond .ne 6, 3) := by decide +kernel
theorem dX3_letPass_10 : decode cX3_letPass 10 = .ok (.bipush (-2), 2) := by decide +kernel
theorem dX3_letPass_12 : decode cX3_letPass 12 = .ok (.ireturn, 1) := by decide +kernel
theorem dX3_letPass_13 : decode cX3_letPass 13 = .ok (.aload_n 0, 1) := by decide +kernel
theorem dX3_letPass_14 : decode cX3_letPass 14 = .ok (.getfield 12, 3) := by decide +kernel
theorem dX3_letPass_17 : decode cX3_letPass 17 = .ok (.getfield 85, 3) := by decide +kernel
theorem dX3_letPass_20 : decode cX3_letPass 20 = .ok (.sipush 9999, 3) := by decide +kernel
theorem dX3_letPass_23 : decode cX3_letPass 23 = .ok (.iload_n 1, 1) := by decide +kernel
theorem dX3_letPass_24 : decode cX3_letPass 24 = .ok (.isub, 1) := by decide +kernel
theorem dX3_letPass_25 : decode cX3_letPass 25 = .ok (.if_icmp .le 6, 3) := by decide +kernel
theorem dX3_letPass_28 : decode cX3_letPass 28 = .ok (.bipush (-4), 2) := by decide +kernel
theorem dX3_letPass_30 : decode cX3_letPass 30 = .ok (.ireturn, 1) := by decide +kernel
theorem dX3_letPass_31 : decode cX3_letPass 31 = .ok (.iconst 0, 1) := by decide +kernel
theorem dX3_letPass_32 : decode cX3_letPass 32 = .ok (.istore_n 2, 1) := by decide +kernel
theorem dX3_letPass_33 : decode cX3_letPass 33 = .ok (.iconst 0, 1) := by decide +kernel
theorem dX3_letPass_34 : decode cX3_letPass 34 = .ok (.istore_n 3, 1) := by decide +kernel
theorem dX3_letPass_35 : decode cX3_letPass 35 = .ok (.iload_n 3, 1) := by decide +kernel
theorem dX3_letPass_36 : decode cX3_letPass 36 = .ok (.iload_n 1, 1) := by decide +kernel
theorem dX3_letPass_37 : decode cX3_letPass 37 = .ok (.if_icmp .ge 19, 3) := by decide +kernel
theorem dX3_letPass_40 : decode cX3_letPass 40 = .ok (.iload_n 2, 1) := by decide +kernel
theorem dX3_letPass_41 : decode cX3_letPass 41 = .ok (.aload_n 0, 1) := by decide +kernel
theorem dX3_letPass_42 : decode cX3_letPass 42 = .ok (.getfield 12, 3) := by decide +kernel
theorem dX3_letPass_45 : decode cX3_letPass 45 = .ok (.invokevirtual 186, 3) := by decide +kernel
theorem dX3_letPass_48 : decode cX3_letPass 48 = .ok (.iadd, 1) := by decide +kernel
theorem dX3_letPass_49 : decode cX3_letPass 49 = .ok (.istore_n 2, 1) := by decide +kernel
theorem dX3_letPass_50 : decode cX3_letPass 50 = .ok (.iinc 3 1, 3) := by decide +kernel
theorem dX3_letPass_53 : decode cX3_letPass 53 = .ok (.goto (-18), 3) := by decide +kernel
theorem dX3_letPass_56 : decode cX3_letPass 56 = .ok (.iload_n 2, 1) := by decide +kernel
theorem dX3_letPass_57 : decode cX3_letPass 57 = .ok (.ireturn, 1) := by decide +kernel
set_option maxRecDepth 20000 in
theorem ggX3_callCourier_X3_isWithin : GoodIn wsX3_callCourier wsX3_isWithin := goodIn_r _ [6] (by decide +kernel) (by decide +kernel)
set_option maxRecDepth 20000 in
theorem gX3_callCourier_X3_isWithin : GoodIn wsX3_callCourier (va_wsS RX3 59 yX3_isWithin wsX3_isWithin) := goodIn_app (goodIn_of _ (by decide +kernel)) ggX3_callCourier_X3_isWithin
set_option maxRecDepth 20000 in
theorem ggX3_callCourier_X1_emptyBin : GoodIn wsX3_callCourier wsX1_emptyBin := goodIn_r _ [11, 12, 13, 14, 15, 24, 25, 26, 27, 28, 29, 30, 31, 32, 33, 34, 35, 36, 37] (by decide +kernel) (by decide +kernel)
set_option maxRecDepth 20000 in
theorem gX3_callCourier_X1_emptyBin : GoodIn wsX3_callCourier (wsV RX3 245 RX1 yX1_emptyBin wsX1_emptyBin) := goodIn_app (goodIn_of _ (by decide +kernel)) ggX3_callCourier_X1_emptyBin
theorem dX3_callCourier_0 : decode cX3_callCourier 0 = .ok (.iload_n 1, 1) := by decide +kernel
theorem dX3_callCourier_1 : decode cX3_callCourier 1 = .ok (.iconst 0, 1) := by decide +kernel
theorem dX3_callCourier_2 : decode cX3_callCourier 2 = .ok (.bipush 9, 2) := by decide +kernel
theorem dX3_callCourier_4 : decode cX3_callCourier 4 = .ok (.invokestatic 59, 3) := by decide +kernel
theorem dX3_callCourier_7 : decode cX3_callCourier 7 = .ok (.ifCond .ne 5, 3) := by decide +kernel
theorem dX3_callCourier_10 : decode cX3_callCourier 10 = .ok (.iconst (-1), 1) := by decide +kernel
theorem dX3_callCourier_11 : decode cX3_callCourier 11 = .ok (.ireturn, 1) := by decide +kernel
theorem dX3_callCourier_12 : decode cX3_callCourier 12 = .ok (.aload_n 0, 1) := by decide +kernel
theorem dX3_callCourier_13 : decode cX3_callCourier 13 = .ok (.getfield 12, 3) := by decide +kernel
theorem dX3_callCourier_16 : decode cX3_callCourier 16 = .ok (.getfield 126, 3) := by decide +kernel
theorem dX3_callCourier_19 : decode cX3_callCourier 19 = .ok (.iload_n 1, 1) := by decide +kernel
theorem dX3_callCourier_20 : decode cX3_callCourier 20 = .ok (.iaload, 1) := by decide +kernel
theorem dX3_callCourier_21 : decode cX3_callCourier 21 = .ok (.ifCond .ne 6, 3) := by decide +kernel
theorem dX3_callCourier_24 : decode cX3_callCourier 24 = .ok (.bipush (-3), 2) := by decide +kernel
theorem dX3_callCourier_26 : decode cX3_callCourier 26 = .ok (.ireturn, 1) := by decide +kernel
theorem dX3_callCourier_27 : decode cX3_callCourier 27 = .ok (.aload_n 0, 1) := by decide +kernel
theorem dX3_callCourier_28 : decode cX3_callCourier 28 = .ok (.getfield 12, 3) := by decide +kernel
theorem dX3_callCourier_31 : decode cX3_callCourier 31 = .ok (.iload_n 1, 1) := by decide +kernel
theorem dX3_callCourier_32 : decode cX3_callCourier 32 = .ok (.bipush 6, 2) := by decide +kernel
theorem dX3_callCourier_34 : decode cX3_callCourier 34 = .ok (.invokevirtual 245, 3) := by decide +kernel
theorem dX3_callCourier_37 : decode cX3_callCourier 37 = .ok (.ireturn, 1) := by decide +kernel
set_option maxRecDepth 20000 in
theorem ggX3_executeCommand_X2_signAt : GoodIn wsX3_executeCommand wsX2_signAt := goodIn_r _ [6, 7, 8, 9, 10, 11, 185, 186] (by decide +kernel) (by decide +kernel)
set_option maxRecDepth 20000 in
theorem gX3_executeCommand_X2_signAt : GoodIn wsX3_executeCommand (wsV RX3 248 RX2 yX2_signAt wsX2_signAt) := goodIn_app (goodIn_of _ (by decide +kernel)) ggX3_executeCommand_X2_signAt
set_option maxRecDepth 20000 in
theorem ggX3_executeCommand_X2_numberAt : GoodIn wsX3_executeCommand wsX2_numberAt := goodIn_r _ [15, 16, 3, 4, 5, 6, 7, 8, 9, 10, 11, 185, 186] (by decide +kernel) (by decide +kernel)
set_option maxRecDepth 20000 in
theorem gX3_executeCommand_X2_numberAt : GoodIn wsX3_executeCommand (wsV RX3 252 RX2 yX2_numberAt wsX2_numberAt) := goodIn_app (goodIn_of _ (by decide +kernel)) ggX3_executeCommand_X2_numberAt
set_option maxRecDepth 20000 in
theorem ggX3_executeCommand_X2_sizeAt : GoodIn wsX3_executeCommand wsX2_sizeAt := goodIn_r _ [20, 16, 3, 4, 5, 6, 7, 8, 9, 10, 11, 21, 22, 23, 185, 186] (by decide +kernel) (by decide +kernel)
set_option maxRecDepth 20000 in
theorem gX3_executeCommand_X2_sizeAt : GoodIn wsX3_executeCommand (wsV RX3 255 RX2 yX2_sizeAt wsX2_sizeAt) := goodIn_app (goodIn_of _ (by decide +kernel)) ggX3_executeCommand_X2_sizeAt
set_option maxRecDepth 20000 in
theorem ggX3_executeCommand_X3_letCome : GoodIn wsX3_executeCommand wsX3_letCome := goodIn_r _ [27, 28, 29, 30, 31, 9, 10, 11, 32, 33, 34, 35, 36, 37, 38, 39, 40, 41, 42, 43, 44, 45, 46, 47, 48, 49, 50, 51, 52, 53, 54, 55, 56, 57, 58, 59, 60, 61, 62, 63, 64, 65, 66, 67, 68, 69, 70, 71, 72, 73, 74, 75, 76, 77, 78, 79, 80, 81, 82, 83, 84, 85, 86, 87, 88, 89, 177, 178, 179, 180, 181, 182, 183, 184, 187, 188, 189, 190, 191, 192, 193, 194, 195, 196, 197, 198, 199, 200] (by decide +kernel) (by decide +kernel)
set_option maxRecDepth 20000 in
theorem gX3_executeCommand_X3_letCome : GoodIn wsX3_executeCommand (wsV RX3 67 RX3 yX3_letCome wsX3_letCome) := goodIn_app (goodIn_of _ (by decide +kernel)) ggX3_executeCommand_X3_letCome
set_option maxRecDepth 20000 in
theorem ggX3_executeCommand_X3_letFetch : GoodIn wsX3_executeCommand wsX3_letFetch := goodIn_r _ [93, 28, 94, 95, 96, 97, 31, 9, 10, 11, 98, 99, 100, 38, 101, 102, 68, 69, 70, 71, 72, 73, 103, 104, 105, 106, 44, 107, 108, 109, 110, 111, 87, 88, 89, 112, 52, 53, 113, 114, 115, 116, 49, 80, 59, 117, 118, 119, 120, 79, 121, 122, 123, 124, 58, 177, 178, 179, 180, 181, 182, 183, 184, 187, 188, 189, 190, 191, 192, 193, 194, 195, 196, 197, 198, 199, 200] (by decide +kernel) (by decide +kernel)
set_option maxRecDepth 20000 in
theorem gX3_executeCommand_X3_letFetch : GoodIn wsX3_executeCommand (wsV RX3 70 RX3 yX3_letFetch wsX3_letFetch) := goodIn_app (goodIn_of _ (by decide +kernel)) ggX3_executeCommand_X3_letFetch
set_option maxRecDepth 20000 in
theorem ggX3_executeCommand_X3_letRefuse : GoodIn wsX3_executeCommand wsX3_letRefuse := goodIn_r _ [128, 28, 97, 129, 103, 104, 105, 38, 106, 44, 107, 10, 108, 31, 9, 11, 109, 110, 111, 87, 88, 89, 112, 52, 53, 130, 131, 132, 133, 134, 135, 55, 56, 57, 58, 49, 59, 68, 69, 70, 71, 72, 73, 121, 122, 123, 124, 177, 178, 179, 180, 181, 182, 183, 184, 187, 188, 189, 190, 191, 192, 193, 194, 195, 196, 197, 198, 199, 200] (by decide +kernel) (by decide +kernel)
set_option maxRecDepth 20000 in
theorem gX3_executeCommand_X3_letRefuse : GoodIn wsX3_executeCommand (wsV RX3 73 RX3 yX3_letRefuse wsX3_letRefuse) := goodIn_app (goodIn_of _ (by decide +kernel)) ggX3_executeCommand_X3_letRefuse
set_option maxRecDepth 20000 in
theorem ggX3_executeCommand_X3_moveParcel : GoodIn wsX3_executeCommand wsX3_moveParcel := goodIn_r _ [139, 28, 140, 97, 141, 103, 104, 105, 38, 106, 44, 107, 10, 108, 31, 9, 11, 109, 110, 111, 87, 88, 89, 112, 52, 53, 130, 131, 132, 133, 134, 135, 55, 56, 57, 58, 49, 59, 68, 69, 70, 71, 72, 73, 142, 143, 144, 35, 36, 37, 39, 40, 41, 42, 43, 45, 46, 47, 48, 50, 51, 54, 60, 61, 62, 63, 64, 65, 66, 67, 74, 75, 76, 77, 78, 79, 80, 121, 122, 123, 124, 81, 82, 83, 84, 85, 86, 177, 178, 179, 180, 181, 182, 183, 184, 187, 188, 189, 190, 191, 192, 193, 194, 195, 196, 197, 198, 199, 200] (by decide +kernel) (by decide +kernel)
set_option maxRecDepth 20000 in
theorem gX3_executeCommand_X3_moveParcel : GoodIn wsX3_executeCommand (wsV RX3 76 RX3 yX3_moveParcel wsX3_moveParcel) := goodIn_app (goodIn_of _ (by decide +kernel)) ggX3_executeCommand_X3_moveParcel
set_option maxRecDepth 20000 in
theorem ggX3_executeCommand_X2_endOfCommand : GoodIn wsX3_executeCommand wsX2_endOfCommand := goodIn_r _ [148, 7, 16, 3, 4, 5, 6, 8, 9, 10, 11, 185, 186] (by decide +kernel) (by decide +kernel)
set_option maxRecDepth 20000 in
theorem gX3_executeCommand_X2_endOfCommand : GoodIn wsX3_executeCommand (wsV RX3 258 RX2 yX2_endOfCommand wsX2_endOfCommand) := goodIn_app (goodIn_of _ (by decide +kernel)) ggX3_executeCommand_X2_endOfCommand
set_option maxRecDepth 20000 in
theorem ggX3_executeCommand_X3_letPass : GoodIn wsX3_executeCommand wsX3_letPass := goodIn_r _ [152, 28, 29, 31, 9, 10, 11, 153, 154, 155, 38, 156, 49, 102, 157, 158, 159, 160, 161, 59, 162, 163, 164, 165, 166, 167, 168, 169, 170, 171, 78, 172, 173, 174, 175, 44, 80, 176, 122, 123, 124, 58, 52, 53, 177, 178, 179, 180, 181, 182, 183, 184, 187, 188, 189, 190, 191, 192, 193, 194, 195, 196, 197, 198, 199, 200] (by decide +kernel) (by decide +kernel)
set_option maxRecDepth 20000 in
theorem gX3_executeCommand_X3_letPass : GoodIn wsX3_executeCommand (wsV RX3 79 RX3 yX3_letPass wsX3_letPass) := goodIn_app (goodIn_of _ (by decide +kernel)) ggX3_executeCommand_X3_letPass
theorem dX3_executeCommand_0 : decode cX3_executeCommand 0 = .ok (.aload_n 0, 1) := by decide +kernel
theorem dX3_executeCommand_1 : decode cX3_executeCommand 1 = .ok (.getfield 32, 3) := by decide +kernel
theorem dX3_executeCommand_4 : decode cX3_executeCommand 4 = .ok (.iload_n 1, 1) := by decide +kernel
theorem dX3_executeCommand_5 : decode cX3_executeCommand 5 = .ok (.invokevirtual 248, 3) := by decide +kernel
theorem dX3_executeCommand_8 : decode cX3_executeCommand 8 = .ok (.lookupswitch 166 #[(97, 52), (100, 139), (109, 110), (112, 78), (120, 94)], 52) := by decide +kernel
theorem dX3_executeCommand_60 : decode cX3_executeCommand 60 = .ok (.aload_n 0, 1) := by decide +kernel
theorem dX3_executeCommand_61 : decode cX3_executeCommand 61 = .ok (.aload_n 0, 1) := by decide +kernel
theorem dX3_executeCommand_62 : decode cX3_executeCommand 62 = .ok (.getfield 32, 3) := by decide +kernel
theorem dX3_executeCommand_65 : decode cX3_executeCommand 65 = .ok (.iload_n 1, 1) := by decide +kernel
theorem dX3_executeCommand_66 : decode cX3_executeCommand 66 = .ok (.iconst 1, 1) := by decide +kernel
theorem dX3_executeCommand_67 : decode cX3_executeCommand 67 = .ok (.iadd, 1) := by decide +kernel
theorem dX3_executeCommand_68 : decode cX3_executeCommand 68 = .ok (.iconst 1, 1) := by decide +kernel
theorem dX3_executeCommand_69 : decode cX3_executeCommand 69 = .ok (.invokevirtual 252, 3) := by decide +kernel
theorem dX3_executeCommand_72 : decode cX3_executeCommand 72 = .ok (.aload_n 0, 1) := by decide +kernel
theorem dX3_executeCommand_73 : decode cX3_executeCommand 73 = .ok (.getfield 32, 3) := by decide +kernel
theorem dX3_executeCommand_76 : decode cX3_executeCommand 76 = .ok (.iload_n 1, 1) := by decide +kernel
theorem dX3_executeCommand_77 : decode cX3_executeCommand 77 = .ok (.iconst 2, 1) := by decide +kernel
theorem dX3_executeCommand_78 : decode cX3_executeCommand 78 = .ok (.iadd, 1) := by decide +kernel
theorem dX3_executeCommand_79 : decode cX3_executeCommand 79 = .ok (.invokevirtual 255, 3) := by decide +kernel
theorem dX3_executeCommand_82 : decode cX3_executeCommand 82 = .ok (.invokevirtual 67, 3) := by decide +kernel
theorem dX3_executeCommand_85 : decode cX3_executeCommand 85 = .ok (.ireturn, 1) := by decide +kernel
theorem dX3_executeCommand_86 : decode cX3_executeCommand 86 = .ok (.aload_n 0, 1) := by decide +kernel
theorem dX3_executeCommand_87 : decode cX3_executeCommand 87 = .ok (.aload_n 0, 1) := by decide +kernel
theorem dX3_executeCommand_88 : decode cX3_executeCommand 88 = .ok (.getfield 32, 3) := by decide +kernel
theorem dX3_executeCommand_91 : decode cX3_executeCommand 91 = .ok (.iload_n 1, 1) := by decide +kernel
theorem dX3_executeCommand_92 : decode cX3_executeCommand 92 = .ok (.iconst 1, 1) := by decide +kernel
theorem dX3_executeCommand_93 : decode cX3_executeCommand 93 = .ok (.iadd, 1) := by decide +kernel
theorem dX3_executeCommand_94 : decode cX3_executeCommand 94 = .ok (.iconst 4, 1) := by decide +kernel
theorem dX3_executeCommand_95 : decode cX3_executeCommand 95 = .ok (.invokevirtual 252, 3) := by decide +kernel
theorem dX3_executeCommand_98 : decode cX3_executeCommand 98 = .ok (.invokevirtual 70, 3) := by decide +kernel
theorem dX3_executeCommand_101 : decode cX3_executeCommand 101 = .ok (.ireturn, 1) := by decide +kernel
theorem dX3_executeCommand_102 : decode cX3_executeCommand 102 = .ok (.aload_n 0, 1) := by decide +kernel
theorem dX3_executeCommand_103 : decode cX3_executeCommand 103 = .ok (.aload_n 0, 1) := by decide +kernel
theorem dX3_executeCommand_104 : decode cX3_executeCommand 104 = .ok (.getfield 32, 3) := by decide +kernel
theorem dX3_executeCommand_107 : decode cX3_executeCommand 107 = .ok (.iload_n 1, 1) := by decide +kernel
theorem dX3_executeCommand_108 : decode cX3_executeCommand 108 = .ok (.iconst 1, 1) := by decide +kernel
theorem dX3_executeCommand_109 : decode cX3_executeCommand 109 = .ok (.iadd, 1) := by decide +kernel
theorem dX3_executeCommand_110 : decode cX3_executeCommand 110 = .ok (.iconst 4, 1) := by decide +kernel
theorem dX3_executeCommand_111 : decode cX3_executeCommand 111 = .ok (.invokevirtual 252, 3) := by decide +kernel
theorem dX3_executeCommand_114 : decode cX3_executeCommand 114 = .ok (.invokevirtual 73, 3) := by decide +kernel
theorem dX3_executeCommand_117 : decode cX3_executeCommand 117 = .ok (.ireturn, 1) := by decide +kernel
theorem dX3_executeCommand_118 : decode cX3_executeCommand 118 = .ok (.aload_n 0, 1) := by decide +kernel
theorem dX3_executeCommand_119 : decode cX3_executeCommand 119 = .ok (.aload_n 0, 1) := by decide +kernel
theorem dX3_executeCommand_120 : decode cX3_executeCommand 120 = .ok (.getfield 32, 3) := by decide +kernel
theorem dX3_executeCommand_123 : decode cX3_executeCommand 123 = .ok (.iload_n 1, 1) := by decide +kernel
theorem dX3_executeCommand_124 : decode cX3_executeCommand 124 = .ok (.iconst 1, 1) := by decide +kernel
theorem dX3_executeCommand_125 : decode cX3_executeCommand 125 = .ok (.iadd, 1) := by decide +kernel
theorem dX3_executeCommand_126 : decode cX3_executeCommand 126 = .ok (.iconst 4, 1) := by decide +kernel
theorem dX3_executeCommand_127 : decode cX3_executeCommand 127 = .ok (.invokevirtual 252, 3) := by decide +kernel
theorem dX3_executeCommand_130 : decode cX3_executeCommand 130 = .ok (.aload_n 0, 1) := by decide +kernel
theorem dX3_executeCommand_131 : decode cX3_executeCommand 131 = .ok (.getfield 32, 3) := by decide +kernel
theorem dX3_executeCommand_134 : decode cX3_executeCommand 134 = .ok (.iload_n 1, 1) := by decide +kernel
theorem dX3_executeCommand_135 : decode cX3_executeCommand 135 = .ok (.iconst 2, 1) := by decide +kernel
theorem dX3_executeCommand_136 : decode cX3_executeCommand 136 = .ok (.iadd, 1) := by decide +kernel
theorem dX3_executeCommand_137 : decode cX3_executeCommand 137 = .ok (.iconst 4, 1) := by decide +kernel
theorem dX3_executeCommand_138 : decode cX3_executeCommand 138 = .ok (.iadd, 1) := by decide +kernel
theorem dX3_executeCommand_139 : decode cX3_executeCommand 139 = .ok (.iconst 1, 1) := by decide +kernel
theorem dX3_executeCommand_140 : decode cX3_executeCommand 140 = .ok (.invokevirtual 252, 3) := by decide +kernel
theorem dX3_executeCommand_143 : decode cX3_executeCommand 143 = .ok (.invokevirtual 76, 3) := by decide +kernel
theorem dX3_executeCommand_146 : decode cX3_executeCommand 146 = .ok (.ireturn, 1) := by decide +kernel
theorem dX3_executeCommand_147 : decode cX3_executeCommand 147 = .ok (.aload_n 0, 1) := by decide +kernel
theorem dX3_executeCommand_148 : decode cX3_executeCommand 148 = .ok (.aload_n 0, 1) := by decide +kernel
theorem dX3_executeCommand_149 : decode cX3_executeCommand 149 = .ok (.getfield 32, 3) := by decide +kernel
theorem dX3_executeCommand_152 : decode cX3_executeCommand 152 = .ok (.iload_n 1, 1) := by decide +kernel
theorem dX3_executeCommand_153 : decode cX3_executeCommand 153 = .ok (.iconst 1, 1) := by decide +kernel
theorem dX3_executeCommand_154 : decode cX3_executeCommand 154 = .ok (.iadd, 1) := by decide +kernel
theorem dX3_executeCommand_155 : decode cX3_executeCommand 155 = .ok (.aload_n 0, 1) := by decide +kernel
theorem dX3_executeCommand_156 : decode cX3_executeCommand 156 = .ok (.getfield 32, 3) := by decide +kernel
theorem dX3_executeCommand_159 : decode cX3_executeCommand 159 = .ok (.iload_n 1, 1) := by decide +kernel
theorem dX3_executeCommand_160 : decode cX3_executeCommand 160 = .ok (.invokevirtual 258, 3) := by decide +kernel
theorem dX3_executeCommand_163 : decode cX3_executeCommand 163 = .ok (.iload_n 1, 1) := by decide +kernel
theorem dX3_executeCommand_164 : decode cX3_executeCommand 164 = .ok (.isub, 1) := by decide +kernel
theorem dX3_executeCommand_165 : decode cX3_executeCommand 165 = .ok (.iconst 1, 1) := by decide +kernel
theorem dX3_executeCommand_166 : decode cX3_executeCommand 166 = .ok (.isub, 1) := by decide +kernel
theorem dX3_executeCommand_167 : decode cX3_executeCommand 167 = .ok (.invokevirtual 252, 3) := by decide +kernel
theorem dX3_executeCommand_170 : decode cX3_executeCommand 170 = .ok (.invokevirtual 79, 3) := by decide +kernel
theorem dX3_executeCommand_173 : decode cX3_executeCommand 173 = .ok (.ireturn, 1) := by decide +kernel
theorem dX3_executeCommand_174 : decode cX3_executeCommand 174 = .ok (.bipush (-5), 2) := by decide +kernel
theorem dX3_executeCommand_176 : decode cX3_executeCommand 176 = .ok (.ireturn, 1) := by decide +kernel
set_option maxRecDepth 20000 in
theorem ggX3_recorded_X3_isError : GoodIn wsX3_recorded wsX3_isError := goodIn_r _ [5, 6, 7, 4, 8] (by decide +kernel) (by decide +kernel)
set_option maxRecDepth 20000 in
theorem gX3_recorded_X3_isError : GoodIn wsX3_recorded (va_wsS RX3 211 yX3_isError wsX3_isError) := goodIn_app (goodIn_of _ (by decide +kernel)) ggX3_recorded_X3_isError
set_option maxRecDepth 20000 in
theorem ggX3_recorded_X0_keepPrepared : GoodIn wsX3_recorded wsX0_keepPrepared := goodIn_r _ [13, 14, 15, 24, 25, 26] (by decide +kernel) (by decide +kernel)
set_option maxRecDepth 20000 in
theorem gX3_recorded_X0_keepPrepared : GoodIn wsX3_recorded (wsV RX3 261 RX0 yX0_keepPrepared wsX0_keepPrepared) := goodIn_app (goodIn_of _ (by decide +kernel)) ggX3_recorded_X0_keepPrepared
theorem dX3_recorded_0 : decode cX3_recorded 0 = .ok (.iload_n 1, 1) := by decide +kernel
theorem dX3_recorded_1 : decode cX3_recorded 1 = .ok (.invokestatic 211, 3) := by decide +kernel
theorem dX3_recorded_4 : decode cX3_recorded 4 = .ok (.ifCond .ne 10, 3) := by decide +kernel
theorem dX3_recorded_7 : decode cX3_recorded 7 = .ok (.aload_n 0, 1) := by decide +kernel
theorem dX3_recorded_8 : decode cX3_recorded 8 = .ok (.getfield 25, 3) := by decide +kernel
theorem dX3_recorded_11 : decode cX3_recorded 11 = .ok (.invokevirtual 261, 3) := by decide +kernel
theorem dX3_recorded_14 : decode cX3_recorded 14 = .ok (.iload_n 1, 1) := by decide +kernel
theorem dX3_recorded_15 : decode cX3_recorded 15 = .ok (.ireturn, 1) := by decide +kernel
set_option maxRecDepth 20000 in
theorem ggX3_isError_X3_isWithin : GoodIn wsX3_isError wsX3_isWithin := goodIn_r _ [4] (by decide +kernel) (by decide +kernel)
set_option maxRecDepth 20000 in
theorem gX3_isError_X3_isWithin : GoodIn wsX3_isError (va_wsS RX3 59 yX3_isWithin wsX3_isWithin) := goodIn_app (goodIn_of _ (by decide +kernel)) ggX3_isError_X3_isWithin
theorem dX3_isError_0 : decode cX3_isError 0 = .ok (.iload_n 0, 1) := by decide +kernel
theorem dX3_isError_1 : decode cX3_isError 1 = .ok (.bipush (-5), 2) := by decide +kernel
theorem dX3_isError_3 : decode cX3_isError 3 = .ok (.iconst (-1), 1) := by decide +kernel
theorem dX3_isError_4 : decode cX3_isError 4 = .ok (.invokestatic 59, 3) := by decide +kernel
theorem dX3_isError_7 : decode cX3_isError 7 = .ok (.ireturn, 1) := by decide +kernel
theorem dX3_refuseFor_0 : decode cX3_refuseFor 0 = .ok (.aload_n 0, 1) := by decide +kernel
theorem dX3_refuseFor_1 : decode cX3_refuseFor 1 = .ok (.iload_n 1, 1) := by decide +kernel
theorem dX3_refuseFor_2 : decode cX3_refuseFor 2 = .ok (.putfield 40, 3) := by decide +kernel
theorem dX3_refuseFor_5 : decode cX3_refuseFor 5 = .ok (.aload_n 0, 1) := by decide +kernel
theorem dX3_refuseFor_6 : decode cX3_refuseFor 6 = .ok (.iload_n 2, 1) := by decide +kernel
theorem dX3_refuseFor_7 : decode cX3_refuseFor 7 = .ok (.putfield 44, 3) := by decide +kernel
theorem dX3_refuseFor_10 : decode cX3_refuseFor 10 = .ok (.return_, 1) := by decide +kernel
set_option maxRecDepth 20000 in
theorem ggX3_refuseForNoPlace_X1_hasFreePlace : GoodIn wsX3_refuseForNoPlace wsX1_hasFreePlace := goodIn_r _ [6, 7, 8, 9, 5, 10, 11, 27, 28, 29, 30, 31, 32, 33, 34, 35, 36, 37, 38, 39, 40] (by decide +kernel) (by decide +kernel)
set_option maxRecDepth 20000 in
theorem gX3_refuseForNoPlace_X1_hasFreePlace : GoodIn wsX3_refuseForNoPlace (wsV RX3 264 RX1 yX1_hasFreePlace wsX1_hasFreePlace) := goodIn_app (goodIn_of _ (by decide +kernel)) ggX3_refuseForNoPlace_X1_hasFreePlace
set_option maxRecDepth 20000 in
theorem ggX3_refuseForNoPlace_X3_refuseFor : GoodIn wsX3_refuseForNoPlace wsX3_refuseFor := goodIn_r _ [16, 17, 18, 19, 20, 21, 22, 23, 24, 25, 26] (by decide +kernel) (by decide +kernel)
set_option maxRecDepth 20000 in
theorem gX3_refuseForNoPlace_X3_refuseFor : GoodIn wsX3_refuseForNoPlace (wsV RX3 235 RX3 yX3_refuseFor wsX3_refuseFor) := goodIn_app (goodIn_of _ (by decide +kernel)) ggX3_refuseForNoPlace_X3_refuseFor
theorem dX3_refuseForNoPlace_0 : decode cX3_refuseForNoPlace 0 = .ok (.aload_n 0, 1) := by decide +kernel
theorem dX3_refuseForNoPlace_1 : decode cX3_refuseForNoPlace 1 = .ok (.getfield 12, 3) := by decide +kernel
theorem dX3_refuseForNoPlace_4 : decode cX3_refuseForNoPlace 4 = .ok (.iload_n 1, 1) := by decide +kernel
theorem dX3_refuseForNoPlace_5 : decode cX3_refuseForNoPlace 5 = .ok (.iload_n 2, 1) := by decide +kernel
theorem dX3_refuseForNoPlace_6 : decode cX3_refuseForNoPlace 6 = .ok (.invokevirtual 264, 3) := by decide +kernel
theorem dX3_refuseForNoPlace_9 : decode cX3_refuseForNoPlace 9 = .ok (.istore_n 3, 1) := by decide +kernel
theorem dX3_refuseForNoPlace_10 : decode cX3_refuseForNoPlace 10 = .ok (.aload_n 0, 1) := by decide +kernel
theorem dX3_refuseForNoPlace_11 : decode cX3_refuseForNoPlace 11 = .ok (.iconst 1, 1) := by decide +kernel
theorem dX3_refuseForNoPlace_12 : decode cX3_refuseForNoPlace 12 = .ok (.iload_n 3, 1) := by decide +kernel
theorem dX3_refuseForNoPlace_13 : decode cX3_refuseForNoPlace 13 = .ok (.ifCond .eq 7, 3) := by decide +kernel
theorem dX3_refuseForNoPlace_16 : decode cX3_refuseForNoPlace 16 = .ok (.iconst 5, 1) := by decide +kernel
theorem dX3_refuseForNoPlace_17 : decode cX3_refuseForNoPlace 17 = .ok (.goto 5, 3) := by decide +kernel
theorem dX3_refuseForNoPlace_20 : decode cX3_refuseForNoPlace 20 = .ok (.bipush 6, 2) := by decide +kernel
theorem dX3_refuseForNoPlace_22 : decode cX3_refuseForNoPlace 22 = .ok (.invokevirtual 235, 3) := by decide +kernel
theorem dX3_refuseForNoPlace_25 : decode cX3_refuseForNoPlace 25 = .ok (.return_, 1) := by decide +kernel
set_option maxRecDepth 20000 in
theorem ggX3_refuseForNoParcel_X3_indexOfCode : GoodIn wsX3_refuseForNoParcel wsX3_indexOfCode := goodIn_r _ [5, 6, 7, 4, 8, 9, 10, 11, 12, 13, 14, 15, 16, 17] (by decide +kernel) (by decide +kernel)
set_option maxRecDepth 20000 in
theorem gX3_refuseForNoParcel_X3_indexOfCode : GoodIn wsX3_refuseForNoParcel (va_wsS RX3 162 yX3_indexOfCode wsX3_indexOfCode) := goodIn_app (goodIn_of _ (by decide +kernel)) ggX3_refuseForNoParcel_X3_indexOfCode
set_option maxRecDepth 20000 in
theorem ggX3_refuseForNoParcel_X1_rests : GoodIn wsX3_refuseForNoParcel wsX1_rests := goodIn_r _ [22, 23, 24, 25, 40, 41, 42, 43, 44, 45, 46, 47, 48, 49, 50, 51, 52, 53] (by decide +kernel) (by decide +kernel)
set_option maxRecDepth 20000 in
theorem gX3_refuseForNoParcel_X1_rests : GoodIn wsX3_refuseForNoParcel (wsV RX3 171 RX1 yX1_rests wsX1_rests) := goodIn_app (goodIn_of _ (by decide +kernel)) ggX3_refuseForNoParcel_X1_rests
set_option maxRecDepth 20000 in
theorem ggX3_refuseForNoParcel_X3_refuseFor : GoodIn wsX3_refuseForNoParcel wsX3_refuseFor := goodIn_r _ [29, 30, 31, 32, 33, 34, 35, 36, 37, 38, 39] (by decide +kernel) (by decide +kernel)
set_option maxRecDepth 20000 in
theorem gX3_refuseForNoParcel_X3_refuseFor : GoodIn wsX3_refuseForNoParcel (wsV RX3 235 RX3 yX3_refuseFor wsX3_refuseFor) := goodIn_app (goodIn_of _ (by decide +kernel)) ggX3_refuseForNoParcel_X3_refuseFor
theorem dX3_refuseForNoParcel_0 : decode cX3_refuseForNoParcel 0 = .ok (.iload_n 1, 1) := by decide +kernel
theorem dX3_refuseForNoParcel_1 : decode cX3_refuseForNoParcel 1 = .ok (.invokestatic 162, 3) := by decide +kernel
theorem dX3_refuseForNoParcel_4 : decode cX3_refuseForNoParcel 4 = .ok (.istore_n 2, 1) := by decide +kernel
theorem dX3_refuseForNoParcel_5 : decode cX3_refuseForNoParcel 5 = .ok (.iload_n 2, 1) := by decide +kernel
theorem dX3_refuseForNoParcel_6 : decode cX3_refuseForNoParcel 6 = .ok (.ifCond .lt 18, 3) := by decide +kernel
theorem dX3_refuseForNoParcel_9 : decode cX3_refuseForNoParcel 9 = .ok (.aload_n 0, 1) := by decide +kernel
theorem dX3_refuseForNoParcel_10 : decode cX3_refuseForNoParcel 10 = .ok (.getfield 12, 3) := by decide +kernel
theorem dX3_refuseForNoParcel_13 : decode cX3_refuseForNoParcel 13 = .ok (.iload_n 2, 1) := by decide +kernel
theorem dX3_refuseForNoParcel_14 : decode cX3_refuseForNoParcel 14 = .ok (.invokevirtual 171, 3) := by decide +kernel
theorem dX3_refuseForNoParcel_17 : decode cX3_refuseForNoParcel 17 = .ok (.ifCond .eq 7, 3) := by decide +kernel
theorem dX3_refuseForNoParcel_20 : decode cX3_refuseForNoParcel 20 = .ok (.iconst 1, 1) := by decide +kernel
theorem dX3_refuseForNoParcel_21 : decode cX3_refuseForNoParcel 21 = .ok (.goto 4, 3) := by decide +kernel
theorem dX3_refuseForNoParcel_24 : decode cX3_refuseForNoParcel 24 = .ok (.iconst 0, 1) := by decide +kernel
theorem dX3_refuseForNoParcel_25 : decode cX3_refuseForNoParcel 25 = .ok (.istore_n 3, 1) := by decide +kernel
theorem dX3_refuseForNoParcel_26 : decode cX3_refuseForNoParcel 26 = .ok (.aload_n 0, 1) := by decide +kernel
theorem dX3_refuseForNoParcel_27 : decode cX3_refuseForNoParcel 27 = .ok (.iconst 4, 1) := by decide +kernel
theorem dX3_refuseForNoParcel_28 : decode cX3_refuseForNoParcel 28 = .ok (.iload_n 3, 1) := by decide +kernel
theorem dX3_refuseForNoParcel_29 : decode cX3_refuseForNoParcel 29 = .ok (.ifCond .eq 7, 3) := by decide +kernel
theorem dX3_refuseForNoParcel_32 : decode cX3_refuseForNoParcel 32 = .ok (.iconst 5, 1) := by decide +kernel
theorem dX3_refuseForNoParcel_33 : decode cX3_refuseForNoParcel 33 = .ok (.goto 5, 3) := by decide +kernel
theorem dX3_refuseForNoParcel_36 : decode cX3_refuseForNoParcel 36 = .ok (.bipush (-6), 2) := by decide +kernel
theorem dX3_refuseForNoParcel_38 : decode cX3_refuseForNoParcel 38 = .ok (.invokevirtual 235, 3) := by decide +kernel
theorem dX3_refuseForNoParcel_41 : decode cX3_refuseForNoParcel 41 = .ok (.return_, 1) := by decide +kernel
theorem dX3_isWithin_0 : decode cX3_isWithin 0 = .ok (.iload_n 0, 1) := by decide +kernel
theorem dX3_isWithin_1 : decode cX3_isWithin 1 = .ok (.iload_n 1, 1) := by decide +kernel
theorem dX3_isWithin_2 : decode cX3_isWithin 2 = .ok (.if_icmp .lt 12, 3) := by decide +kernel
theorem dX3_isWithin_5 : decode cX3_isWithin 5 = .ok (.iload_n 0, 1) := by decide +kernel
theorem dX3_isWithin_6 : decode cX3_isWithin 6 = .ok (.iload_n 2, 1) := by decide +kernel
theorem dX3_isWithin_7 : decode cX3_isWithin 7 = .ok (.if_icmp .gt 7, 3) := by decide +kernel
theorem dX3_isWithin_10 : decode cX3_isWithin 10 = .ok (.iconst 1, 1) := by decide +kernel
theorem dX3_isWithin_11 : decode cX3_isWithin 11 = .ok (.goto 4, 3) := by decide +kernel
theorem dX3_isWithin_14 : decode cX3_isWithin 14 = .ok (.iconst 0, 1) := by decide +kernel
theorem dX3_isWithin_15 : decode cX3_isWithin 15 = .ok (.ireturn, 1) := by decide +kernel
theorem dX3_sum_0 : decode cX3_sum 0 = .ok (.iconst 0, 1) := by decide +kernel
theorem dX3_sum_1 : decode cX3_sum 1 = .ok (.istore_n 1, 1) := by decide +kernel
theorem dX3_sum_2 : decode cX3_sum 2 = .ok (.aload_n 0, 1) := by decide +kernel
theorem dX3_sum_3 : decode cX3_sum 3 = .ok (.astore_n 2, 1) := by decide +kernel
theorem dX3_sum_4 : decode cX3_sum 4 = .ok (.aload_n 2, 1) := by decide +kernel
theorem dX3_sum_5 : decode cX3_sum 5 = .ok (.arraylength, 1) := by decide +kernel
theorem dX3_sum_6 : decode cX3_sum 6 = .ok (.istore_n 3, 1) := by decide +kernel
theorem dX3_sum_7 : decode cX3_sum 7 = .ok (.iconst 0, 1) := by decide +kernel
theorem dX3_sum_8 : decode cX3_sum 8 = .ok (.istore 4, 2) := by decide +kernel
theorem dX3_sum_10 : decode cX3_sum 10 = .ok (.iload 4, 2) := by decide +kernel
theorem dX3_sum_12 : decode cX3_sum 12 = .ok (.iload_n 3, 1) := by decide +kernel
theorem dX3_sum_13 : decode cX3_sum 13 = .ok (.if_icmp .ge 20, 3) := by decide +kernel
theorem dX3_sum_16 : decode cX3_sum 16 = .ok (.aload_n 2, 1) := by decide +kernel
theorem dX3_sum_17 : decode cX3_sum 17 = .ok (.iload 4, 2) := by decide +kernel
theorem dX3_sum_19 : decode cX3_sum 19 = .ok (.iaload, 1) := by decide +kernel
theorem dX3_sum_20 : decode cX3_sum 20 = .ok (.istore 5, 2) := by decide +kernel
theorem dX3_sum_22 : decode cX3_sum 22 = .ok (.iload_n 1, 1) := by decide +kernel
theorem dX3_sum_23 : decode cX3_sum 23 = .ok (.iload 5, 2) := by decide +kernel
theorem dX3_sum_25 : decode cX3_sum 25 = .ok (.iadd, 1) := by decide +kernel
theorem dX3_sum_26 : decode cX3_sum 26 = .ok (.istore_n 1, 1) := by decide +kernel
theorem dX3_sum_27 : decode cX3_sum 27 = .ok (.iinc 4 1, 3) := by decide +kernel
theorem dX3_sum_30 : decode cX3_sum 30 = .ok (.goto (-20), 3) := by decide +kernel
theorem dX3_sum_33 : decode cX3_sum 33 = .ok (.iload_n 1, 1) := by decide +kernel
theorem dX3_sum_34 : decode cX3_sum 34 = .ok (.ireturn, 1) := by decide +kernel
set_option maxRecDepth 20000 in
theorem ggX3_isPlace_X3_isWithin : GoodIn wsX3_isPlace wsX3_isWithin := goodIn_r _ [4] (by decide +kernel) (by decide +kernel)
set_option maxRecDepth 20000 in
theorem gX3_isPlace_X3_isWithin : GoodIn wsX3_isPlace (va_wsS RX3 59 yX3_isWithin wsX3_isWithin) := goodIn_app (goodIn_of _ (by decide +kernel)) ggX3_isPlace_X3_isWithin
theorem dX3_isPlace_0 : decode cX3_isPlace 0 = .ok (.iload_n 0, 1) := by decide +kernel
theorem dX3_isPlace_1 : decode cX3_isPlace 1 = .ok (.iconst 0, 1) := by decide +kernel
theorem dX3_isPlace_2 : decode cX3_isPlace 2 = .ok (.iconst 5, 1) := by decide +kernel
theorem dX3_isPlace_3 : decode cX3_isPlace 3 = .ok (.invokestatic 59, 3) := by decide +kernel
theorem dX3_isPlace_6 : decode cX3_isPlace 6 = .ok (.ifCond .eq 17, 3) := by decide +kernel
theorem dX3_isPlace_9 : decode cX3_isPlace 9 = .ok (.iload_n 1, 1) := by decide +kernel
theorem dX3_isPlace_10 : decode cX3_isPlace 10 = .ok (.iconst 0, 1) := by decide +kernel
theorem dX3_isPlace_11 : decode cX3_isPlace 11 = .ok (.bipush 7, 2) := by decide +kernel
theorem dX3_isPlace_13 : decode cX3_isPlace 13 = .ok (.invokestatic 59, 3) := by decide +kernel
theorem dX3_isPlace_16 : decode cX3_isPlace 16 = .ok (.ifCond .eq 7, 3) := by decide +kernel
theorem dX3_isPlace_19 : decode cX3_isPlace 19 = .ok (.iconst 1, 1) := by decide +kernel
theorem dX3_isPlace_20 : decode cX3_isPlace 20 = .ok (.goto 4, 3) := by decide +kernel
theorem dX3_isPlace_23 : decode cX3_isPlace 23 = .ok (.iconst 0, 1) := by decide +kernel
theorem dX3_isPlace_24 : decode cX3_isPlace 24 = .ok (.ireturn, 1) := by decide +kernel
theorem dX3_sizeOfShelf_0 : decode cX3_sizeOfShelf 0 = .ok (.iload_n 0, 1) := by decide +kernel
theorem dX3_sizeOfShelf_1 : decode cX3_sizeOfShelf 1 = .ok (.iconst 2, 1) := by decide +kernel
theorem dX3_sizeOfShelf_2 : decode cX3_sizeOfShelf 2 = .ok (.idiv, 1) := by decide +kernel
theorem dX3_sizeOfShelf_3 : decode cX3_sizeOfShelf 3 = .ok (.ireturn, 1) := by decide +kernel
theorem dX3_firstShelfFor_0 : decode cX3_firstShelfFor 0 = .ok (.iload_n 0, 1) := by decide +kernel
theorem dX3_firstShelfFor_1 : decode cX3_firstShelfFor 1 = .ok (.iconst 2, 1) := by decide +kernel
theorem dX3_firstShelfFor_2 : decode cX3_firstShelfFor 2 = .ok (.imul, 1) := by decide +kernel
theorem dX3_firstShelfFor_3 : decode cX3_firstShelfFor 3 = .ok (.ireturn, 1) := by decide +kernel
theorem dX3_checkDigit_0 : decode cX3_checkDigit 0 = .ok (.bipush 10, 2) := by decide +kernel
theorem dX3_checkDigit_2 : decode cX3_checkDigit 2 = .ok (.iconst 3, 1) := by decide +kernel
theorem dX3_checkDigit_3 : decode cX3_checkDigit 3 = .ok (.iload_n 0, 1) := by decide +kernel
theorem dX3_checkDigit_4 : decode cX3_checkDigit 4 = .ok (.imul, 1) := by decide +kernel
theorem dX3_checkDigit_5 : decode cX3_checkDigit 5 = .ok (.iload_n 1, 1) := by decide +kernel
theorem dX3_checkDigit_6 : decode cX3_checkDigit 6 = .ok (.iadd, 1) := by decide +kernel
theorem dX3_checkDigit_7 : decode cX3_checkDigit 7 = .ok (.bipush 7, 2) := by decide +kernel
theorem dX3_checkDigit_9 : decode cX3_checkDigit 9 = .ok (.iload_n 2, 1) := by decide +kernel
theorem dX3_checkDigit_10 : decode cX3_checkDigit 10 = .ok (.imul, 1) := by decide +kernel
theorem dX3_checkDigit_11 : decode cX3_checkDigit 11 = .ok (.iadd, 1) := by decide +kernel
theorem dX3_checkDigit_12 : decode cX3_checkDigit 12 = .ok (.bipush 10, 2) := by decide +kernel
theorem dX3_checkDigit_14 : decode cX3_checkDigit 14 = .ok (.irem, 1) := by decide +kernel
theorem dX3_checkDigit_15 : decode cX3_checkDigit 15 = .ok (.isub, 1) := by decide +kernel
theorem dX3_checkDigit_16 : decode cX3_checkDigit 16 = .ok (.bipush 10, 2) := by decide +kernel
theorem dX3_checkDigit_18 : decode cX3_checkDigit 18 = .ok (.irem, 1) := by decide +kernel
theorem dX3_checkDigit_19 : decode cX3_checkDigit 19 = .ok (.ireturn, 1) := by decide +kernel
theorem dX3_weekdayOf_0 : decode cX3_weekdayOf 0 = .ok (.iload_n 0, 1) := by decide +kernel
theorem dX3_weekdayOf_1 : decode cX3_weekdayOf 1 = .ok (.bipush 7, 2) := by decide +kernel
theorem dX3_weekdayOf_3 : decode cX3_weekdayOf 3 = .ok (.irem, 1) := by decide +kernel
theorem dX3_weekdayOf_4 : decode cX3_weekdayOf 4 = .ok (.iconst 1, 1) := by decide +kernel
theorem dX3_weekdayOf_5 : decode cX3_weekdayOf 5 = .ok (.iadd, 1) := by decide +kernel
theorem dX3_weekdayOf_6 : decode cX3_weekdayOf 6 = .ok (.ireturn, 1) := by decide +kernel
set_option maxRecDepth 20000 in
theorem ggX3_codeFor_X3_checkDigit : GoodIn wsX3_codeFor wsX3_checkDigit := goodIn_r _ [4] (by decide +kernel) (by decide +kernel)
set_option maxRecDepth 20000 in
theorem gX3_codeFor_X3_checkDigit : GoodIn wsX3_codeFor (va_wsS RX3 267 yX3_checkDigit wsX3_checkDigit) := goodIn_app (goodIn_of _ (by decide +kernel)) ggX3_codeFor_X3_checkDigit
theorem dX3_codeFor_0 : decode cX3_codeFor 0 = .ok (.iload_n 1, 1) := by decide +kernel
theorem dX3_codeFor_1 : decode cX3_codeFor 1 = .ok (.bipush 8, 2) := by decide +kernel
theorem dX3_codeFor_3 : decode cX3_codeFor 3 = .ok (.idiv, 1) := by decide +kernel
theorem dX3_codeFor_4 : decode cX3_codeFor 4 = .ok (.istore_n 2, 1) := by decide +kernel
theorem dX3_codeFor_5 : decode cX3_codeFor 5 = .ok (.iload_n 1, 1) := by decide +kernel
theorem dX3_codeFor_6 : decode cX3_codeFor 6 = .ok (.bipush 8, 2) := by decide +kernel
theorem dX3_codeFor_8 : decode cX3_codeFor 8 = .ok (.irem, 1) := by decide +kernel
theorem dX3_codeFor_9 : decode cX3_codeFor 9 = .ok (.istore_n 3, 1) := by decide +kernel
theorem dX3_codeFor_10 : decode cX3_codeFor 10 = .ok (.sipush 1000, 3) := by decide +kernel
theorem dX3_codeFor_13 : decode cX3_codeFor 13 = .ok (.iload_n 0, 1) := by decide +kernel
theorem dX3_codeFor_14 : decode cX3_codeFor 14 = .ok (.imul, 1) := by decide +kernel
theorem dX3_codeFor_15 : decode cX3_codeFor 15 = .ok (.bipush 100, 2) := by decide +kernel
theorem dX3_codeFor_17 : decode cX3_codeFor 17 = .ok (.iload_n 2, 1) := by decide +kernel
theorem dX3_codeFor_18 : decode cX3_codeFor 18 = .ok (.imul, 1) := by decide +kernel
theorem dX3_codeFor_19 : decode cX3_codeFor 19 = .ok (.iadd, 1) := by decide +kernel
theorem dX3_codeFor_20 : decode cX3_codeFor 20 = .ok (.bipush 10, 2) := by decide +kernel
theorem dX3_codeFor_22 : decode cX3_codeFor 22 = .ok (.iload_n 3, 1) := by decide +kernel
theorem dX3_codeFor_23 : decode cX3_codeFor 23 = .ok (.imul, 1) := by decide +kernel
theorem dX3_codeFor_24 : decode cX3_codeFor 24 = .ok (.iadd, 1) := by decide +kernel
theorem dX3_codeFor_25 : decode cX3_codeFor 25 = .ok (.iload_n 0, 1) := by decide +kernel
theorem dX3_codeFor_26 : decode cX3_codeFor 26 = .ok (.iload_n 2, 1) := by decide +kernel
theorem dX3_codeFor_27 : decode cX3_codeFor 27 = .ok (.iload_n 3, 1) := by decide +kernel
theorem dX3_codeFor_28 : decode cX3_codeFor 28 = .ok (.invokestatic 267, 3) := by decide +kernel
theorem dX3_codeFor_31 : decode cX3_codeFor 31 = .ok (.iadd, 1) := by decide +kernel
theorem dX3_codeFor_32 : decode cX3_codeFor 32 = .ok (.ireturn, 1) := by decide +kernel
theorem dX3_indexFor_0 : decode cX3_indexFor 0 = .ok (.iload_n 0, 1) := by decide +kernel
theorem dX3_indexFor_1 : decode cX3_indexFor 1 = .ok (.iconst 1, 1) := by decide +kernel
theorem dX3_indexFor_2 : decode cX3_indexFor 2 = .ok (.isub, 1) := by decide +kernel
theorem dX3_indexFor_3 : decode cX3_indexFor 3 = .ok (.bipush 48, 2) := by decide +kernel
theorem dX3_indexFor_5 : decode cX3_indexFor 5 = .ok (.imul, 1) := by decide +kernel
theorem dX3_indexFor_6 : decode cX3_indexFor 6 = .ok (.iload_n 1, 1) := by decide +kernel
theorem dX3_indexFor_7 : decode cX3_indexFor 7 = .ok (.iadd, 1) := by decide +kernel
theorem dX3_indexFor_8 : decode cX3_indexFor 8 = .ok (.ireturn, 1) := by decide +kernel
set_option maxRecDepth 20000 in
theorem ggX3_indexOfCode_X3_isWithin : GoodIn wsX3_indexOfCode wsX3_isWithin := goodIn_r _ [4] (by decide +kernel) (by decide +kernel)
set_option maxRecDepth 20000 in
theorem gX3_indexOfCode_X3_isWithin : GoodIn wsX3_indexOfCode (va_wsS RX3 59 yX3_isWithin wsX3_isWithin) := goodIn_app (goodIn_of _ (by decide +kernel)) ggX3_indexOfCode_X3_isWithin
set_option maxRecDepth 20000 in
theorem ggX3_indexOfCode_X3_isPlace : GoodIn wsX3_indexOfCode wsX3_isPlace := goodIn_r _ [7, 1, 2, 3, 4] (by decide +kernel) (by decide +kernel)
set_option maxRecDepth 20000 in
theorem gX3_indexOfCode_X3_isPlace : GoodIn wsX3_indexOfCode (va_wsS RX3 103 yX3_isPlace wsX3_isPlace) := goodIn_app (goodIn_of _ (by decide +kernel)) ggX3_indexOfCode_X3_isPlace
set_option maxRecDepth 20000 in
theorem ggX3_indexOfCode_X3_checkDigit : GoodIn wsX3_indexOfCode wsX3_checkDigit := goodIn_r _ [10] (by decide +kernel) (by decide +kernel)
set_option maxRecDepth 20000 in
theorem gX3_indexOfCode_X3_checkDigit : GoodIn wsX3_indexOfCode (va_wsS RX3 267 yX3_checkDigit wsX3_checkDigit) := goodIn_app (goodIn_of _ (by decide +kernel)) ggX3_indexOfCode_X3_checkDigit
set_option maxRecDepth 20000 in
theorem ggX3_indexOfCode_X3_indexFor : GoodIn wsX3_indexOfCode wsX3_indexFor := goodIn_r _ [13] (by decide +kernel) (by decide +kernel)
set_option maxRecDepth 20000 in
theorem gX3_indexOfCode_X3_indexFor : GoodIn wsX3_indexOfCode (va_wsS RX3 271 yX3_indexFor wsX3_indexFor) := goodIn_app (goodIn_of _ (by decide +kernel)) ggX3_indexOfCode_X3_indexFor
theorem dX3_indexOfCode_0 : decode cX3_indexOfCode 0 = .ok (.iload_n 0, 1) := by decide +kernel
theorem dX3_indexOfCode_1 : decode cX3_indexOfCode 1 = .ok (.iconst 0, 1) := by decide +kernel
theorem dX3_indexOfCode_2 : decode cX3_indexOfCode 2 = .ok (.sipush 9999, 3) := by decide +kernel
theorem dX3_indexOfCode_5 : decode cX3_indexOfCode 5 = .ok (.invokestatic 59, 3) := by decide +kernel
theorem dX3_indexOfCode_8 : decode cX3_indexOfCode 8 = .ok (.ifCond .ne 5, 3) := by decide +kernel
theorem dX3_indexOfCode_11 : decode cX3_indexOfCode 11 = .ok (.iconst (-1), 1) := by decide +kernel
theorem dX3_indexOfCode_12 : decode cX3_indexOfCode 12 = .ok (.ireturn, 1) := by decide +kernel
theorem dX3_indexOfCode_13 : decode cX3_indexOfCode 13 = .ok (.iload_n 0, 1) := by decide +kernel
theorem dX3_indexOfCode_14 : decode cX3_indexOfCode 14 = .ok (.sipush 1000, 3) := by decide +kernel
theorem dX3_indexOfCode_17 : decode cX3_indexOfCode 17 = .ok (.idiv, 1) := by decide +kernel
theorem dX3_indexOfCode_18 : decode cX3_indexOfCode 18 = .ok (.istore_n 1, 1) := by decide +kernel
theorem dX3_indexOfCode_19 : decode cX3_indexOfCode 19 = .ok (.iload_n 0, 1) := by decide +kernel
theorem dX3_indexOfCode_20 : decode cX3_indexOfCode 20 = .ok (.bipush 100, 2) := by decide +kernel
theorem dX3_indexOfCode_22 : decode cX3_indexOfCode 22 = .ok (.idiv, 1) := by decide +kernel
theorem dX3_indexOfCode_23 : decode cX3_indexOfCode 23 = .ok (.bipush 10, 2) := by decide +kernel
theorem dX3_indexOfCode_25 : decode cX3_indexOfCode 25 = .ok (.irem, 1) := by decide +kernel
theorem dX3_indexOfCode_26 : decode cX3_indexOfCode 26 = .ok (.istore_n 2, 1) := by decide +kernel
theorem dX3_indexOfCode_27 : decode cX3_indexOfCode 27 = .ok (.iload_n 0, 1) := by decide +kernel
theorem dX3_indexOfCode_28 : decode cX3_indexOfCode 28 = .ok (.bipush 10, 2) := by decide +kernel
theorem dX3_indexOfCode_30 : decode cX3_indexOfCode 30 = .ok (.idiv, 1) := by decide +kernel
theorem dX3_indexOfCode_31 : decode cX3_indexOfCode 31 = .ok (.bipush 10, 2) := by decide +kernel
theorem dX3_indexOfCode_33 : decode cX3_indexOfCode 33 = .ok (.irem, 1) := by decide +kernel
theorem dX3_indexOfCode_34 : decode cX3_indexOfCode 34 = .ok (.istore_n 3, 1) := by decide +kernel
theorem dX3_indexOfCode_35 : decode cX3_indexOfCode 35 = .ok (.iload_n 1, 1) := by decide +kernel
theorem dX3_indexOfCode_36 : decode cX3_indexOfCode 36 = .ok (.iconst 1, 1) := by decide +kernel
theorem dX3_indexOfCode_37 : decode cX3_indexOfCode 37 = .ok (.bipush 7, 2) := by decide +kernel
theorem dX3_indexOfCode_39 : decode cX3_indexOfCode 39 = .ok (.invokestatic 59, 3) := by decide +kernel
theorem dX3_indexOfCode_42 : decode cX3_indexOfCode 42 = .ok (.ifCond .eq 11, 3) := by decide +kernel
theorem dX3_indexOfCode_45 : decode cX3_indexOfCode 45 = .ok (.iload_n 2, 1) := by decide +kernel
theorem dX3_indexOfCode_46 : decode cX3_indexOfCode 46 = .ok (.iload_n 3, 1) := by decide +kernel
theorem dX3_indexOfCode_47 : decode cX3_indexOfCode 47 = .ok (.invokestatic 103, 3) := by decide +kernel
theorem dX3_indexOfCode_50 : decode cX3_indexOfCode 50 = .ok (.ifCond .ne 5, 3) := by decide +kernel
theorem dX3_indexOfCode_53 : decode cX3_indexOfCode 53 = .ok (.iconst (-1), 1) := by decide +kernel
theorem dX3_indexOfCode_54 : decode cX3_indexOfCode 54 = .ok (.ireturn, 1) := by decide +kernel
theorem dX3_indexOfCode_55 : decode cX3_indexOfCode 55 = .ok (.iload_n 0, 1) := by decide +kernel
theorem dX3_indexOfCode_56 : decode cX3_indexOfCode 56 = .ok (.bipush 10, 2) := by decide +kernel
theorem dX3_indexOfCode_58 : decode cX3_indexOfCode 58 = .ok (.irem, 1) := by decide +kernel
theorem dX3_indexOfCode_59 : decode cX3_indexOfCode 59 = .ok (.iload_n 1, 1) := by decide +kernel
theorem dX3_indexOfCode_60 : decode cX3_indexOfCode 60 = .ok (.iload_n 2, 1) := by decide +kernel
theorem dX3_indexOfCode_61 : decode cX3_indexOfCode 61 = .ok (.iload_n 3, 1) := by decide +kernel
theorem dX3_indexOfCode_62 : decode cX3_indexOfCode 62 = .ok (.invokestatic 267, 3) := by decide +kernel
theorem dX3_indexOfCode_65 : decode cX3_indexOfCode 65 = .ok (.if_icmp .eq 5, 3) := by decide +kernel
theorem dX3_indexOfCode_68 : decode cX3_indexOfCode 68 = .ok (.iconst (-1), 1) := by decide +kernel
theorem dX3_indexOfCode_69 : decode cX3_indexOfCode 69 = .ok (.ireturn, 1) := by decide +kernel
theorem dX3_indexOfCode_70 : decode cX3_indexOfCode 70 = .ok (.iload_n 1, 1) := by decide +kernel
theorem dX3_indexOfCode_71 : decode cX3_indexOfCode 71 = .ok (.iload_n 2, 1) := by decide +kernel
theorem dX3_indexOfCode_72 : decode cX3_indexOfCode 72 = .ok (.bipush 8, 2) := by decide +kernel
theorem dX3_indexOfCode_74 : decode cX3_indexOfCode 74 = .ok (.imul, 1) := by decide +kernel
theorem dX3_indexOfCode_75 : decode cX3_indexOfCode 75 = .ok (.iload_n 3, 1) := by decide +kernel
theorem dX3_indexOfCode_76 : decode cX3_indexOfCode 76 = .ok (.iadd, 1) := by decide +kernel
theorem dX3_indexOfCode_77 : decode cX3_indexOfCode 77 = .ok (.invokestatic 271, 3) := by decide +kernel
theorem dX3_indexOfCode_80 : decode cX3_indexOfCode 80 = .ok (.ireturn, 1) := by decide +kernel
theorem dX4_init_0 : decode cX4_init 0 = .ok (.aload_n 0, 1) := by decide +kernel
theorem dX4_init_1 : decode cX4_init 1 = .ok (.invokespecial 1, 3) := by decide +kernel
theorem dX4_init_4 : decode cX4_init 4 = .ok (.aload_n 0, 1) := by decide +kernel
theorem dX4_init_5 : decode cX4_init 5 = .ok (.sipush 580, 3) := by decide +kernel
theorem dX4_init_8 : decode cX4_init 8 = .ok (.newarray .int, 2) := by decide +kernel
theorem dX4_init_10 : decode cX4_init 10 = .ok (.putfield 7, 3) := by decide +kernel
theorem dX4_init_13 : decode cX4_init 13 = .ok (.aload_n 0, 1) := by decide +kernel
theorem dX4_init_14 : decode cX4_init 14 = .ok (.sipush 2900, 3) := by decide +kernel
theorem dX4_init_17 : decode cX4_init 17 = .ok (.newarray .int, 2) := by decide +kernel
theorem dX4_init_19 : decode cX4_init 19 = .ok (.putfield 13, 3) := by decide +kernel
theorem dX4_init_22 : decode cX4_init 22 = .ok (.aload_n 0, 1) := by decide +kernel
theorem dX4_init_23 : decode cX4_init 23 = .ok (.sipush 580, 3) := by decide +kernel
theorem dX4_init_26 : decode cX4_init 26 = .ok (.newarray .int, 2) := by decide +kernel
theorem dX4_init_28 : decode cX4_init 28 = .ok (.putfield 16, 3) := by decide +kernel
theorem dX4_init_31 : decode cX4_init 31 = .ok (.aload_n 0, 1) := by decide +kernel
theorem dX4_init_32 : decode cX4_init 32 = .ok (.sipush 580, 3) := by decide +kernel
theorem dX4_init_35 : decode cX4_init 35 = .ok (.newarray .int, 2) := by decide +kernel
theorem dX4_init_37 : decode cX4_init 37 = .ok (.putfield 19, 3) := by decide +kernel
theorem dX4_init_40 : decode cX4_init 40 = .ok (.aload_n 0, 1) := by decide +kernel
theorem dX4_init_41 : decode cX4_init 41 = .ok (.bipush (-6), 2) := by decide +kernel
theorem dX4_init_43 : decode cX4_init 43 = .ok (.putfield 22, 3) := by decide +kernel
theorem dX4_init_46 : decode cX4_init 46 = .ok (.aload_n 0, 1) := by decide +kernel
theorem dX4_init_47 : decode cX4_init 47 = .ok (.bipush (-6), 2) := by decide +kernel
theorem dX4_init_49 : decode cX4_init 49 = .ok (.putfield 26, 3) := by decide +kernel
theorem dX4_init_52 : decode cX4_init 52 = .ok (.aload_n 0, 1) := by decide +kernel
theorem dX4_init_53 : decode cX4_init 53 = .ok (.bipush 80, 2) := by decide +kernel
theorem dX4_init_55 : decode cX4_init 55 = .ok (.newarray .char, 2) := by decide +kernel
theorem dX4_init_57 : decode cX4_init 57 = .ok (.putfield 29, 3) := by decide +kernel
theorem dX4_init_60 : decode cX4_init 60 = .ok (.aload_n 0, 1) := by decide +kernel
theorem dX4_init_61 : decode cX4_init 61 = .ok (.bipush 84, 2) := by decide +kernel
theorem dX4_init_63 : decode cX4_init 63 = .ok (.newarray .int, 2) := by decide +kernel
theorem dX4_init_65 : decode cX4_init 65 = .ok (.putfield 33, 3) := by decide +kernel
theorem dX4_init_68 : decode cX4_init 68 = .ok (.aload_n 0, 1) := by decide +kernel
theorem dX4_init_69 : decode cX4_init 69 = .ok (.getfield 7, 3) := by decide +kernel
theorem dX4_init_72 : decode cX4_init 72 = .ok (.iconst 0, 1) := by decide +kernel
theorem dX4_init_73 : decode cX4_init 73 = .ok (.iconst 5, 1) := by decide +kernel
theorem dX4_init_74 : decode cX4_init 74 = .ok (.iastore, 1) := by decide +kernel
theorem dX4_init_75 : decode cX4_init 75 = .ok (.aload_n 0, 1) := by decide +kernel
theorem dX4_init_76 : decode cX4_init 76 = .ok (.getfield 7, 3) := by decide +kernel
theorem dX4_init_79 : decode cX4_init 79 = .ok (.iconst 1, 1) := by decide +kernel
theorem dX4_init_80 : decode cX4_init 80 = .ok (.iconst 2, 1) := by decide +kernel
theorem dX4_init_81 : decode cX4_init 81 = .ok (.iastore, 1) := by decide +kernel
theorem dX4_init_82 : decode cX4_init 82 = .ok (.aload_n 0, 1) := by decide +kernel
theorem dX4_init_83 : decode cX4_init 83 = .ok (.getfield 7, 3) := by decide +kernel
theorem dX4_init_86 : decode cX4_init 86 = .ok (.iconst 2, 1) := by decide +kernel
theorem dX4_init_87 : decode cX4_init 87 = .ok (.bipush 10, 2) := by decide +kernel
theorem dX4_init_89 : decode cX4_init 89 = .ok (.iastore, 1) := by decide +kernel
theorem dX4_init_90 : decode cX4_init 90 = .ok (.aload_n 0, 1) := by decide +kernel
theorem dX4_init_91 : decode cX4_init 91 = .ok (.getfield 7, 3) := by decide +kernel
theorem dX4_init_94 : decode cX4_init 94 = .ok (.iconst 3, 1) := by decide +kernel
theorem dX4_init_95 : decode cX4_init 95 = .ok (.bipush 7, 2) := by decide +kernel
theorem dX4_init_97 : decode cX4_init 97 = .ok (.iastore, 1) := by decide +kernel
theorem dX4_init_98 : decode cX4_init 98 = .ok (.aload_n 0, 1) := by decide +kernel
theorem dX4_init_99 : decode cX4_init 99 = .ok (.getfield 7, 3) := by decide +kernel
theorem dX4_init_102 : decode cX4_init 102 = .ok (.iconst 4, 1) := by decide +kernel
theorem dX4_init_103 : decode cX4_init 103 = .ok (.iconst 2, 1) := by decide +kernel
theorem dX4_init_104 : decode cX4_init 104 = .ok (.iastore, 1) := by decide +kernel
theorem dX4_init_105 : decode cX4_init 105 = .ok (.iconst 0, 1) := by decide +kernel
theorem dX4_init_106 : decode cX4_init 106 = .ok (.istore_n 1, 1) := by decide +kernel
theorem dX4_init_107 : decode cX4_init 107 = .ok (.iload_n 1, 1) := by decide +kernel
theorem dX4_init_108 : decode cX4_init 108 = .ok (.sipush 336, 3) := by decide +kernel
theorem dX4_init_111 : decode cX4_init 111 = .ok (.if_icmp .ge 21, 3) := by decide +kernel
theorem dX4_init_114 : decode cX4_init 114 = .ok (.aload_n 0, 1) := by decide +kernel
theorem dX4_init_115 : decode cX4_init 115 = .ok (.getfield 7, 3) := by decide +kernel
theorem dX4_init_118 : decode cX4_init 118 = .ok (.sipush 204, 3) := by decide +kernel
theorem dX4_init_121 : decode cX4_init 121 = .ok (.iload_n 1, 1) := by decide +kernel
theorem dX4_init_122 : decode cX4_init 122 = .ok (.iadd, 1) := by decide +kernel
theorem dX4_init_123 : decode cX4_init 123 = .ok (.bipush (-6), 2) := by decide +kernel
theorem dX4_init_125 : decode cX4_init 125 = .ok (.iastore, 1) := by decide +kernel
theorem dX4_init_126 : decode cX4_init 126 = .ok (.iinc 1 1, 3) := by decide +kernel
theorem dX4_init_129 : decode cX4_init 129 = .ok (.goto (-22), 3) := by decide +kernel
theorem dX4_init_132 : decode cX4_init 132 = .ok (.return_, 1) := by decide +kernel
theorem dX4_in_0 : decode cX4_in 0 = .ok (.iload_n 0, 1) := by decide +kernel
theorem dX4_in_1 : decode cX4_in 1 = .ok (.iload_n 1, 1) := by decide +kernel
theorem dX4_in_2 : decode cX4_in 2 = .ok (.if_icmp .lt 12, 3) := by decide +kernel
theorem dX4_in_5 : decode cX4_in 5 = .ok (.iload_n 0, 1) := by decide +kernel
theorem dX4_in_6 : decode cX4_in 6 = .ok (.iload_n 2, 1) := by decide +kernel
theorem dX4_in_7 : decode cX4_in 7 = .ok (.if_icmp .gt 7, 3) := by decide +kernel
theorem dX4_in_10 : decode cX4_in 10 = .ok (.iconst 1, 1) := by decide +kernel
theorem dX4_in_11 : decode cX4_in 11 = .ok (.goto 4, 3) := by decide +kernel
theorem dX4_in_14 : decode cX4_in 14 = .ok (.iconst 0, 1) := by decide +kernel
theorem dX4_in_15 : decode cX4_in 15 = .ok (.ireturn, 1) := by decide +kernel
theorem dX4_record_0 : decode cX4_record 0 = .ok (.aload_n 0, 1) := by decide +kernel
theorem dX4_record_1 : decode cX4_record 1 = .ok (.getfield 36, 3) := by decide +kernel
theorem dX4_record_4 : decode cX4_record 4 = .ok (.iconst 5, 1) := by decide +kernel
theorem dX4_record_5 : decode cX4_record 5 = .ok (.if_icmp .ne 44, 3) := by decide +kernel
theorem dX4_record_8 : decode cX4_record 8 = .ok (.iconst 0, 1) := by decide +kernel
theorem dX4_record_9 : decode cX4_record 9 = .ok (.istore_n 1, 1) := by decide +kernel
theorem dX4_record_10 : decode cX4_record 10 = .ok (.iload_n 1, 1) := by decide +kernel
theorem dX4_record_11 : decode cX4_record 11 = .ok (.sipush 2320, 3) := by decide +kernel
theorem dX4_record_14 : decode cX4_record 14 = .ok (.if_icmp .ge 25, 3) := by decide +kernel
theorem dX4_record_17 : decode cX4_record 17 = .ok (.aload_n 0, 1) := by decide +kernel
theorem dX4_record_18 : decode cX4_record 18 = .ok (.getfield 13, 3) := by decide +kernel
theorem dX4_record_21 : decode cX4_record 21 = .ok (.iload_n 1, 1) := by decide +kernel
theorem dX4_record_22 : decode cX4_record 22 = .ok (.aload_n 0, 1) := by decide +kernel
theorem dX4_record_23 : decode cX4_record 23 = .ok (.getfield 13, 3) := by decide +kernel
theorem dX4_record_26 : decode cX4_record 26 = .ok (.iload_n 1, 1) := by decide +kernel
theorem dX4_record_27 : decode cX4_record 27 = .ok (.sipush 580, 3) := by decide +kernel
theorem dX4_record_30 : decode cX4_record 30 = .ok (.iadd, 1) := by decide +kernel
theorem dX4_record_31 : decode cX4_record 31 = .ok (.iaload, 1) := by decide +kernel
theorem dX4_record_32 : decode cX4_record 32 = .ok (.iastore, 1) := by decide +kernel
theorem dX4_record_33 : decode cX4_record 33 = .ok (.iinc 1 1, 3) := by decide +kernel
theorem dX4_record_36 : decode cX4_record 36 = .ok (.goto (-26), 3) := by decide +kernel
theorem dX4_record_39 : decode cX4_record 39 = .ok (.aload_n 0, 1) := by decide +kernel
theorem dX4_record_40 : decode cX4_record 40 = .ok (.dup, 1) := by decide +kernel
theorem dX4_record_41 : decode cX4_record 41 = .ok (.getfield 36, 3) := by decide +kernel
theorem dX4_record_44 : decode cX4_record 44 = .ok (.iconst 1, 1) := by decide +kernel
theorem dX4_record_45 : decode cX4_record 45 = .ok (.isub, 1) := by decide +kernel
theorem dX4_record_46 : decode cX4_record 46 = .ok (.putfield 36, 3) := by decide +kernel
theorem dX4_record_49 : decode cX4_record 49 = .ok (.iconst 0, 1) := by decide +kernel
theorem dX4_record_50 : decode cX4_record 50 = .ok (.istore_n 1, 1) := by decide +kernel
theorem dX4_record_51 : decode cX4_record 51 = .ok (.iload_n 1, 1) := by decide +kernel
theorem dX4_record_52 : decode cX4_record 52 = .ok (.sipush 580, 3) := by decide +kernel
theorem dX4_record_55 : decode cX4_record 55 = .ok (.if_icmp .ge 30, 3) := by decide +kernel
theorem dX4_record_58 : decode cX4_record 58 = .ok (.aload_n 0, 1) := by decide +kernel
theorem dX4_record_59 : decode cX4_record 59 = .ok (.getfield 13, 3) := by decide +kernel
theorem dX4_record_62 : decode cX4_record 62 = .ok (.aload_n 0, 1) := by decide +kernel
theorem dX4_record_63 : decode cX4_record 63 = .ok (.getfield 36, 3) := by decide +kernel
theorem dX4_record_66 : decode cX4_record 66 = .ok (.sipush 580, 3) := by decide +kernel
theorem dX4_record_69 : decode cX4_record 69 = .ok (.imul, 1) := by decide +kernel
theorem dX4_record_70 : decode cX4_record 70 = .ok (.iload_n 1, 1) := by decide +kernel
theorem dX4_record_71 : decode cX4_record 71 = .ok (.iadd, 1) := by decide +kernel
theorem dX4_record_72 : decode cX4_record 72 = .ok (.aload_n 0, 1) := by decide +kernel
theorem dX4_record_73 : decode cX4_record 73 = .ok (.getfield 7, 3) := by decide +kernel
theorem dX4_record_76 : decode cX4_record 76 = .ok (.iload_n 1, 1) := by decide +kernel
theorem dX4_record_77 : decode cX4_record 77 = .ok (.iaload, 1) := by decide +kernel
theorem dX4_record_78 : decode cX4_record 78 = .ok (.iastore, 1) := by decide +kernel
theorem dX4_record_79 : decode cX4_record 79 = .ok (.iinc 1 1, 3) := by decide +kernel
theorem dX4_record_82 : decode cX4_record 82 = .ok (.goto (-31), 3) := by decide +kernel
theorem dX4_record_85 : decode cX4_record 85 = .ok (.aload_n 0, 1) := by decide +kernel
theorem dX4_record_86 : decode cX4_record 86 = .ok (.dup, 1) := by decide +kernel
theorem dX4_record_87 : decode cX4_record 87 = .ok (.getfield 36, 3) := by decide +kernel
theorem dX4_record_90 : decode cX4_record 90 = .ok (.iconst 1, 1) := by decide +kernel
theorem dX4_record_91 : decode cX4_record 91 = .ok (.iadd, 1) := by decide +kernel
theorem dX4_record_92 : decode cX4_record 92 = .ok (.putfield 36, 3) := by decide +kernel
theorem dX4_record_95 : decode cX4_record 95 = .ok (.return_, 1) := by decide +kernel
theorem dX4_undo_0 : decode cX4_undo 0 = .ok (.aload_n 0, 1) := by decide +kernel
theorem dX4_undo_1 : decode cX4_undo 1 = .ok (.getfield 36, 3) := by decide +kernel
theorem dX4_undo_4 : decode cX4_undo 4 = .ok (.ifCond .ne 6, 3) := by decide +kernel
theorem dX4_undo_7 : decode cX4_undo 7 = .ok (.bipush (-3), 2) := by decide +kernel
theorem dX4_undo_9 : decode cX4_undo 9 = .ok (.ireturn, 1) := by decide +kernel
theorem dX4_undo_10 : decode cX4_undo 10 = .ok (.aload_n 0, 1) := by decide +kernel
theorem dX4_undo_11 : decode cX4_undo 11 = .ok (.dup, 1) := by decide +kernel
theorem dX4_undo_12 : decode cX4_undo 12 = .ok (.getfield 36, 3) := by decide +kernel
theorem dX4_undo_15 : decode cX4_undo 15 = .ok (.iconst 1, 1) := by decide +kernel
theorem dX4_undo_16 : decode cX4_undo 16 = .ok (.isub, 1) := by decide +kernel
theorem dX4_undo_17 : decode cX4_undo 17 = .ok (.putfield 36, 3) := by decide +kernel
theorem dX4_undo_20 : decode cX4_undo 20 = .ok (.iconst 0, 1) := by decide +kernel
theorem dX4_undo_21 : decode cX4_undo 21 = .ok (.istore_n 1, 1) := by decide +kernel
theorem dX4_undo_22 : decode cX4_undo 22 = .ok (.iload_n 1, 1) := by decide +kernel
theorem dX4_undo_23 : decode cX4_undo 23 = .ok (.sipush 580, 3) := by decide +kernel
theorem dX4_undo_26 : decode cX4_undo 26 = .ok (.if_icmp .ge 30, 3) := by decide +kernel
theorem dX4_undo_29 : decode cX4_undo 29 = .ok (.aload_n 0, 1) := by decide +kernel
theorem dX4_undo_30 : decode cX4_undo 30 = .ok (.getfield 7, 3) := by decide +kernel
theorem dX4_undo_33 : decode cX4_undo 33 = .ok (.iload_n 1, 1) := by decide +kernel
theorem dX4_undo_34 : decode cX4_undo 34 = .ok (.aload_n 0, 1) := by decide +kernel
theorem dX4_undo_35 : decode cX4_undo 35 = .ok (.getfield 13, 3) := by decide +kernel
theorem dX4_undo_38 : decode cX4_undo 38 = .ok (.aload_n 0, 1) := by decide +kernel
theorem dX4_undo_39 : decode cX4_undo 39 = .ok (.getfield 36, 3) := by decide +kernel
theorem dX4_undo_42 : decode cX4_undo 42 = .ok (.sipush 580, 3) := by decide +kernel
theorem dX4_undo_45 : decode cX4_undo 45 = .ok (.imul, 1) := by decide +kernel
theorem dX4_undo_46 : decode cX4_undo 46 = .ok (.iload_n 1, 1) := by decide +kernel
theorem dX4_undo_47 : decode cX4_undo 47 = .ok (.iadd, 1) := by decide +kernel
theorem dX4_undo_48 : decode cX4_undo 48 = .ok (.iaload, 1) := by decide +kernel
theorem dX4_undo_49 : decode cX4_undo 49 = .ok (.iastore, 1) := by decide +kernel
theorem dX4_undo_50 : decode cX4_undo 50 = .ok (.iinc 1 1, 3) := by decide +kernel
theorem dX4_undo_53 : decode cX4_undo 53 = .ok (.goto (-31), 3) := by decide +kernel
theorem dX4_undo_56 : decode cX4_undo 56 = .ok (.aload_n 0, 1) := by decide +kernel
theorem dX4_undo_57 : decode cX4_undo 57 = .ok (.getfield 36, 3) := by decide +kernel
theorem dX4_undo_60 : decode cX4_undo 60 = .ok (.ireturn, 1) := by decide +kernel
set_option maxRecDepth 20000 in
theorem ggX4_save_X4_parcels : GoodIn wsX4_save wsX4_parcels := goodIn_r _ [8, 9, 10, 11, 7, 12, 13, 14, 15, 16, 3, 17, 18, 19, 20, 21, 22, 23, 24, 25, 26, 27, 28, 29, 30] (by decide +kernel) (by decide +kernel)
set_option maxRecDepth 20000 in
theorem gX4_save_X4_parcels : GoodIn wsX4_save (wsV RX4 43 RX4 yX4_parcels wsX4_parcels) := goodIn_app (goodIn_of _ (by decide +kernel)) ggX4_save_X4_parcels
theorem dX4_save_0 : decode cX4_save 0 = .ok (.aload_n 0, 1) := by decide +kernel
theorem dX4_save_1 : decode cX4_save 1 = .ok (.iconst 1, 1) := by decide +kernel
theorem dX4_save_2 : decode cX4_save 2 = .ok (.putfield 39, 3) := by decide +kernel
theorem dX4_save_5 : decode cX4_save 5 = .ok (.iconst 0, 1) := by decide +kernel
theorem dX4_save_6 : decode cX4_save 6 = .ok (.istore_n 1, 1) := by decide +kernel
theorem dX4_save_7 : decode cX4_save 7 = .ok (.iload_n 1, 1) := by decide +kernel
theorem dX4_save_8 : decode cX4_save 8 = .ok (.sipush 580, 3) := by decide +kernel
theorem dX4_save_11 : decode cX4_save 11 = .ok (.if_icmp .ge 21, 3) := by decide +kernel
theorem dX4_save_14 : decode cX4_save 14 = .ok (.aload_n 0, 1) := by decide +kernel
theorem dX4_save_15 : decode cX4_save 15 = .ok (.getfield 16, 3) := by decide +kernel
theorem dX4_save_18 : decode cX4_save 18 = .ok (.iload_n 1, 1) := by decide +kernel
theorem dX4_save_19 : decode cX4_save 19 = .ok (.aload_n 0, 1) := by decide +kernel
theorem dX4_save_20 : decode cX4_save 20 = .ok (.getfield 7, 3) := by decide +kernel
theorem dX4_save_23 : decode cX4_save 23 = .ok (.iload_n 1, 1) := by decide +kernel
theorem dX4_save_24 : decode cX4_save 24 = .ok (.iaload, 1) := by decide +kernel
theorem dX4_save_25 : decode cX4_save 25 = .ok (.iastore, 1) := by decide +kernel
theorem dX4_save_26 : decode cX4_save 26 = .ok (.iinc 1 1, 3) := by decide +kernel
theorem dX4_save_29 : decode cX4_save 29 = .ok (.goto (-22), 3) := by decide +kernel
theorem dX4_save_32 : decode cX4_save 32 = .ok (.aload_n 0, 1) := by decide +kernel
theorem dX4_save_33 : decode cX4_save 33 = .ok (.invokevirtual 43, 3) := by decide +kernel
theorem dX4_save_36 : decode cX4_save 36 = .ok (.ireturn, 1) := by decide +kernel
set_option maxRecDepth 20000 in
theorem ggX4_restore_X4_record : GoodIn wsX4_restore wsX4_record := goodIn_r _ [8, 9, 10, 2, 23, 24, 25, 26, 27, 28, 29, 30, 31, 32, 33, 34, 35, 36] (by decide +kernel) (by decide +kernel)
set_option maxRecDepth 20000 in
theorem gX4_restore_X4_record : GoodIn wsX4_restore (wsV RX4 47 RX4 yX4_record wsX4_record) := goodIn_app (goodIn_of _ (by decide +kernel)) ggX4_restore_X4_record
set_option maxRecDepth 20000 in
theorem ggX4_restore_X4_parcels : GoodIn wsX4_restore wsX4_parcels := goodIn_r _ [14, 15, 16, 17, 7, 18, 19, 20, 21, 22, 2, 23, 24, 25, 26, 27, 28, 29, 30, 31, 32, 33, 34, 35, 36] (by decide +kernel) (by decide +kernel)
set_option maxRecDepth 20000 in
theorem gX4_restore_X4_parcels : GoodIn wsX4_restore (wsV RX4 43 RX4 yX4_parcels wsX4_parcels) := goodIn_app (goodIn_of _ (by decide +kernel)) ggX4_restore_X4_parcels
theorem dX4_restore_0 : decode cX4_restore 0 = .ok (.aload_n 0, 1) := by decide +kernel
theorem dX4_restore_1 : decode cX4_restore 1 = .ok (.getfield 39, 3) := by decide +kernel
theorem dX4_restore_4 : decode cX4_restore 4 = .ok (.ifCond .ne 6, 3) := by decide +kernel
theorem dX4_restore_7 : decode cX4_restore 7 = .ok (.bipush (-3), 2) := by decide +kernel
theorem dX4_restore_9 : decode cX4_restore 9 = .ok (.ireturn, 1) := by decide +kernel
theorem dX4_restore_10 : decode cX4_restore 10 = .ok (.aload_n 0, 1) := by decide +kernel
theorem dX4_restore_11 : decode cX4_restore 11 = .ok (.invokevirtual 47, 3) := by decide +kernel
theorem dX4_restore_14 : decode cX4_restore 14 = .ok (.iconst 0, 1) := by decide +kernel
theorem dX4_restore_15 : decode cX4_restore 15 = .ok (.istore_n 1, 1) := by decide +kernel
theorem dX4_restore_16 : decode cX4_restore 16 = .ok (.iload_n 1, 1) := by decide +kernel
theorem dX4_restore_17 : decode cX4_restore 17 = .ok (.sipush 580, 3) := by decide +kernel
theorem dX4_restore_20 : decode cX4_restore 20 = .ok (.if_icmp .ge 21, 3) := by decide +kernel
theorem dX4_restore_23 : decode cX4_restore 23 = .ok (.aload_n 0, 1) := by decide +kernel
theorem dX4_restore_24 : decode cX4_restore 24 = .ok (.getfield 7, 3) := by decide +kernel
theorem dX4_restore_27 : decode cX4_restore 27 = .ok (.iload_n 1, 1) := by decide +kernel
theorem dX4_restore_28 : decode cX4_restore 28 = .ok (.aload_n 0, 1) := by decide +kernel
theorem dX4_restore_29 : decode cX4_restore 29 = .ok (.getfield 16, 3) := by decide +kernel
theorem dX4_restore_32 : decode cX4_restore 32 = .ok (.iload_n 1, 1) := by decide +kernel
theorem dX4_restore_33 : decode cX4_restore 33 = .ok (.iaload, 1) := by decide +kernel
theorem dX4_restore_34 : decode cX4_restore 34 = .ok (.iastore, 1) := by decide +kernel
theorem dX4_restore_35 : decode cX4_restore 35 = .ok (.iinc 1 1, 3) := by decide +kernel
theorem dX4_restore_38 : decode cX4_restore 38 = .ok (.goto (-22), 3) := by decide +kernel
theorem dX4_restore_41 : decode cX4_restore 41 = .ok (.aload_n 0, 1) := by decide +kernel
theorem dX4_restore_42 : decode cX4_restore 42 = .ok (.invokevirtual 43, 3) := by decide +kernel
theorem dX4_restore_45 : decode cX4_restore 45 = .ok (.ireturn, 1) := by decide +kernel
theorem dX4_putAside_0 : decode cX4_putAside 0 = .ok (.iconst 0, 1) := by decide +kernel
theorem dX4_putAside_1 : decode cX4_putAside 1 = .ok (.istore_n 1, 1) := by decide +kernel
theorem dX4_putAside_2 : decode cX4_putAside 2 = .ok (.iload_n 1, 1) := by decide +kernel
theorem dX4_putAside_3 : decode cX4_putAside 3 = .ok (.sipush 580, 3) := by decide +kernel
theorem dX4_putAside_6 : decode cX4_putAside 6 = .ok (.if_icmp .ge 21, 3) := by decide +kernel
theorem dX4_putAside_9 : decode cX4_putAside 9 = .ok (.aload_n 0, 1) := by decide +kernel
theorem dX4_putAside_10 : decode cX4_putAside 10 = .ok (.getfield 19, 3) := by decide +kernel
theorem dX4_putAside_13 : decode cX4_putAside 13 = .ok (.iload_n 1, 1) := by decide +kernel
theorem dX4_putAside_14 : decode cX4_putAside 14 = .ok (.aload_n 0, 1) := by decide +kernel
theorem dX4_putAside_15 : decode cX4_putAside 15 = .ok (.getfield 7, 3) := by decide +kernel
theorem dX4_putAside_18 : decode cX4_putAside 18 = .ok (.iload_n 1, 1) := by decide +kernel
theorem dX4_putAside_19 : decode cX4_putAside 19 = .ok (.iaload, 1) := by decide +kernel
theorem dX4_putAside_20 : decode cX4_putAside 20 = .ok (.iastore, 1) := by decide +kernel
theorem dX4_putAside_21 : decode cX4_putAside 21 = .ok (.iinc 1 1, 3) := by decide +kernel
theorem dX4_putAside_24 : decode cX4_putAside 24 = .ok (.goto (-22), 3) := by decide +kernel
theorem dX4_putAside_27 : decode cX4_putAside 27 = .ok (.return_, 1) := by decide +kernel
theorem dX4_takeBack_0 : decode cX4_takeBack 0 = .ok (.iconst 0, 1) := by decide +kernel
theorem dX4_takeBack_1 : decode cX4_takeBack 1 = .ok (.istore_n 1, 1) := by decide +kernel
theorem dX4_takeBack_2 : decode cX4_takeBack 2 = .ok (.iload_n 1, 1) := by decide +kernel
theorem dX4_takeBack_3 : decode cX4_takeBack 3 = .ok (.sipush 580, 3) := by decide +kernel
theorem dX4_takeBack_6 : decode cX4_takeBack 6 = .ok (.if_icmp .ge 21, 3) := by decide +kernel
theorem dX4_takeBack_9 : decode cX4_takeBack 9 = .ok (.aload_n 0, 1) := by decide +kernel
theorem dX4_takeBack_10 : decode cX4_takeBack 10 = .ok (.getfield 7, 3) := by decide +kernel
theorem dX4_takeBack_13 : decode cX4_takeBack 13 = .ok (.iload_n 1, 1) := by decide +kernel
theorem dX4_takeBack_14 : decode cX4_takeBack 14 = .ok (.aload_n 0, 1) := by decide +kernel
theorem dX4_takeBack_15 : decode cX4_takeBack 15 = .ok (.getfield 19, 3) := by decide +kernel
theorem dX4_takeBack_18 : decode cX4_takeBack 18 = .ok (.iload_n 1, 1) := by decide +kernel
theorem dX4_takeBack_19 : decode cX4_takeBack 19 = .ok (.iaload, 1) := by decide +kernel
theorem dX4_takeBack_20 : decode cX4_takeBack 20 = .ok (.iastore, 1) := by decide +kernel
theorem dX4_takeBack_21 : decode cX4_takeBack 21 = .ok (.iinc 1 1, 3) := by decide +kernel
theorem dX4_takeBack_24 : decode cX4_takeBack 24 = .ok (.goto (-22), 3) := by decide +kernel
theorem dX4_takeBack_27 : decode cX4_takeBack 27 = .ok (.return_, 1) := by decide +kernel
set_option maxRecDepth 20000 in
theorem ggX4_isInRange_X4_in : GoodIn wsX4_isInRange wsX4_in := goodIn_r _ [4] (by decide +kernel) (by decide +kernel)
set_option maxRecDepth 20000 in
theorem gX4_isInRange_X4_in : GoodIn wsX4_isInRange (va_wsS RX4 50 yX4_in wsX4_in) := goodIn_app (goodIn_of _ (by decide +kernel)) ggX4_isInRange_X4_in
theorem dX4_isInRange_0 : decode cX4_isInRange 0 = .ok (.iload_n 0, 1) := by decide +kernel
theorem dX4_isInRange_1 : decode cX4_isInRange 1 = .ok (.tableswitch 75 0 4 #[35, 43, 51, 59, 67], 35) := by decide +kernel
theorem dX4_isInRange_36 : decode cX4_isInRange 36 = .ok (.iload_n 1, 1) := by decide +kernel
theorem dX4_isInRange_37 : decode cX4_isInRange 37 = .ok (.iconst 0, 1) := by decide +kernel
theorem dX4_isInRange_38 : decode cX4_isInRange 38 = .ok (.bipush 20, 2) := by decide +kernel
theorem dX4_isInRange_40 : decode cX4_isInRange 40 = .ok (.invokestatic 50, 3) := by decide +kernel
theorem dX4_isInRange_43 : decode cX4_isInRange 43 = .ok (.ireturn, 1) := by decide +kernel
theorem dX4_isInRange_44 : decode cX4_isInRange 44 = .ok (.iload_n 1, 1) := by decide +kernel
theorem dX4_isInRange_45 : decode cX4_isInRange 45 = .ok (.iconst 0, 1) := by decide +kernel
theorem dX4_isInRange_46 : decode cX4_isInRange 46 = .ok (.bipush 9, 2) := by decide +kernel
theorem dX4_isInRange_48 : decode cX4_isInRange 48 = .ok (.invokestatic 50, 3) := by decide +kernel
theorem dX4_isInRange_51 : decode cX4_isInRange 51 = .ok (.ireturn, 1) := by decide +kernel
theorem dX4_isInRange_52 : decode cX4_isInRange 52 = .ok (.iload_n 1, 1) := by decide +kernel
theorem dX4_isInRange_53 : decode cX4_isInRange 53 = .ok (.iconst 0, 1) := by decide +kernel
theorem dX4_isInRange_54 : decode cX4_isInRange 54 = .ok (.bipush 50, 2) := by decide +kernel
theorem dX4_isInRange_56 : decode cX4_isInRange 56 = .ok (.invokestatic 50, 3) := by decide +kernel
theorem dX4_isInRange_59 : decode cX4_isInRange 59 = .ok (.ireturn, 1) := by decide +kernel
theorem dX4_isInRange_60 : decode cX4_isInRange 60 = .ok (.iload_n 1, 1) := by decide +kernel
theorem dX4_isInRange_61 : decode cX4_isInRange 61 = .ok (.iconst 1, 1) := by decide +kernel
theorem dX4_isInRange_62 : decode cX4_isInRange 62 = .ok (.bipush 20, 2) := by decide +kernel
theorem dX4_isInRange_64 : decode cX4_isInRange 64 = .ok (.invokestatic 50, 3) := by decide +kernel
theorem dX4_isInRange_67 : decode cX4_isInRange 67 = .ok (.ireturn, 1) := by decide +kernel
theorem dX4_isInRange_68 : decode cX4_isInRange 68 = .ok (.iload_n 1, 1) := by decide +kernel
theorem dX4_isInRange_69 : decode cX4_isInRange 69 = .ok (.iconst 1, 1) := by decide +kernel
theorem dX4_isInRange_70 : decode cX4_isInRange 70 = .ok (.bipush 9, 2) := by decide +kernel
theorem dX4_isInRange_72 : decode cX4_isInRange 72 = .ok (.invokestatic 50, 3) := by decide +kernel
theorem dX4_isInRange_75 : decode cX4_isInRange 75 = .ok (.ireturn, 1) := by decide +kernel
theorem dX4_isInRange_76 : decode cX4_isInRange 76 = .ok (.iconst 0, 1) := by decide +kernel
theorem dX4_isInRange_77 : decode cX4_isInRange 77 = .ok (.ireturn, 1) := by decide +kernel
set_option maxRecDepth 20000 in
theorem ggX4_set_X4_isInRange : GoodIn wsX4_set wsX4_isInRange := goodIn_r _ [5, 6, 7, 4, 8] (by decide +kernel) (by decide +kernel)
set_option maxRecDepth 20000 in
theorem gX4_set_X4_isInRange : GoodIn wsX4_set (va_wsS RX4 54 yX4_isInRange wsX4_isInRange) := goodIn_app (goodIn_of _ (by decide +kernel)) ggX4_set_X4_isInRange
set_option maxRecDepth 20000 in
theorem ggX4_set_X4_record : GoodIn wsX4_set wsX4_record := goodIn_r _ [12, 13, 14, 1, 15, 16, 17, 18, 19, 20, 21, 22, 23, 24, 25, 26, 27, 28] (by decide +kernel) (by decide +kernel)
set_option maxRecDepth 20000 in
theorem gX4_set_X4_record : GoodIn wsX4_set (wsV RX4 47 RX4 yX4_record wsX4_record) := goodIn_app (goodIn_of _ (by decide +kernel)) ggX4_set_X4_record
theorem dX4_set_0 : decode cX4_set 0 = .ok (.iload_n 1, 1) := by decide +kernel
theorem dX4_set_1 : decode cX4_set 1 = .ok (.iload_n 2, 1) := by decide +kernel
theorem dX4_set_2 : decode cX4_set 2 = .ok (.invokestatic 54, 3) := by decide +kernel
theorem dX4_set_5 : decode cX4_set 5 = .ok (.ifCond .ne 6, 3) := by decide +kernel
theorem dX4_set_8 : decode cX4_set 8 = .ok (.bipush (-2), 2) := by decide +kernel
theorem dX4_set_10 : decode cX4_set 10 = .ok (.ireturn, 1) := by decide +kernel
theorem dX4_set_11 : decode cX4_set 11 = .ok (.aload_n 0, 1) := by decide +kernel
theorem dX4_set_12 : decode cX4_set 12 = .ok (.invokevirtual 47, 3) := by decide +kernel
theorem dX4_set_15 : decode cX4_set 15 = .ok (.aload_n 0, 1) := by decide +kernel
theorem dX4_set_16 : decode cX4_set 16 = .ok (.getfield 7, 3) := by decide +kernel
theorem dX4_set_19 : decode cX4_set 19 = .ok (.iload_n 1, 1) := by decide +kernel
theorem dX4_set_20 : decode cX4_set 20 = .ok (.iaload, 1) := by decide +kernel
theorem dX4_set_21 : decode cX4_set 21 = .ok (.istore_n 3, 1) := by decide +kernel
theorem dX4_set_22 : decode cX4_set 22 = .ok (.aload_n 0, 1) := by decide +kernel
theorem dX4_set_23 : decode cX4_set 23 = .ok (.getfield 7, 3) := by decide +kernel
theorem dX4_set_26 : decode cX4_set 26 = .ok (.iload_n 1, 1) := by decide +kernel
theorem dX4_set_27 : decode cX4_set 27 = .ok (.iload_n 2, 1) := by decide +kernel
theorem dX4_set_28 : decode cX4_set 28 = .ok (.iastore, 1) := by decide +kernel
theorem dX4_set_29 : decode cX4_set 29 = .ok (.iload_n 3, 1) := by decide +kernel
theorem dX4_set_30 : decode cX4_set 30 = .ok (.ireturn, 1) := by decide +kernel
set_option maxRecDepth 20000 in
theorem ggX4_setting_X4_in : GoodIn wsX4_setting wsX4_in := goodIn_r _ [5] (by decide +kernel) (by decide +kernel)
set_option maxRecDepth 20000 in
theorem gX4_setting_X4_in : GoodIn wsX4_setting (va_wsS RX4 50 yX4_in wsX4_in) := goodIn_app (goodIn_of _ (by decide +kernel)) ggX4_setting_X4_in
theorem dX4_setting_0 : decode cX4_setting 0 = .ok (.iload_n 1, 1) := by decide +kernel
theorem dX4_setting_1 : decode cX4_setting 1 = .ok (.iconst 0, 1) := by decide +kernel
theorem dX4_setting_2 : decode cX4_setting 2 = .ok (.iconst 4, 1) := by decide +kernel
theorem dX4_setting_3 : decode cX4_setting 3 = .ok (.invokestatic 50, 3) := by decide +kernel
theorem dX4_setting_6 : decode cX4_setting 6 = .ok (.ifCond .eq 12, 3) := by decide +kernel
theorem dX4_setting_9 : decode cX4_setting 9 = .ok (.aload_n 0, 1) := by decide +kernel
theorem dX4_setting_10 : decode cX4_setting 10 = .ok (.getfield 7, 3) := by decide +kernel
theorem dX4_setting_13 : decode cX4_setting 13 = .ok (.iload_n 1, 1) := by decide +kernel
theorem dX4_setting_14 : decode cX4_setting 14 = .ok (.iaload, 1) := by decide +kernel
theorem dX4_setting_15 : decode cX4_setting 15 = .ok (.goto 5, 3) := by decide +kernel
theorem dX4_setting_18 : decode cX4_setting 18 = .ok (.bipush (-2), 2) := by decide +kernel
theorem dX4_setting_20 : decode cX4_setting 20 = .ok (.ireturn, 1) := by decide +kernel
theorem dX4_at_0 : decode cX4_at 0 = .ok (.aload_n 0, 1) := by decide +kernel
theorem dX4_at_1 : decode cX4_at 1 = .ok (.getfield 7, 3) := by decide +kernel
theorem dX4_at_4 : decode cX4_at 4 = .ok (.bipush 12, 2) := by decide +kernel
theorem dX4_at_6 : decode cX4_at 6 = .ok (.iconst 4, 1) := by decide +kernel
theorem dX4_at_7 : decode cX4_at 7 = .ok (.iload_n 1, 1) := by decide +kernel
theorem dX4_at_8 : decode cX4_at 8 = .ok (.imul, 1) := by decide +kernel
theorem dX4_at_9 : decode cX4_at 9 = .ok (.iadd, 1) := by decide +kernel
theorem dX4_at_10 : decode cX4_at 10 = .ok (.iload_n 2, 1) := by decide +kernel
theorem dX4_at_11 : decode cX4_at 11 = .ok (.iadd, 1) := by decide +kernel
theorem dX4_at_12 : decode cX4_at 12 = .ok (.iaload, 1) := by decide +kernel
theorem dX4_at_13 : decode cX4_at 13 = .ok (.ireturn, 1) := by decide +kernel
set_option maxRecDepth 20000 in
theorem ggX4_isTaken_X4_at : GoodIn wsX4_isTaken wsX4_at := goodIn_r _ [5, 6, 7, 8, 9, 10, 11, 12, 13, 14, 15, 16, 17, 18, 19, 20] (by decide +kernel) (by decide +kernel)
set_option maxRecDepth 20000 in
theorem gX4_isTaken_X4_at : GoodIn wsX4_isTaken (wsV RX4 58 RX4 yX4_at wsX4_at) := goodIn_app (goodIn_of _ (by decide +kernel)) ggX4_isTaken_X4_at
theorem dX4_isTaken_0 : decode cX4_isTaken 0 = .ok (.aload_n 0, 1) := by decide +kernel
theorem dX4_isTaken_1 : decode cX4_isTaken 1 = .ok (.iload_n 1, 1) := by decide +kernel
theorem dX4_isTaken_2 : decode cX4_isTaken 2 = .ok (.iconst 0, 1) := by decide +kernel
end
section
theorem dX4_isTaken_3 : decode cX4_isTaken 3 = .ok (.invokevirtual 58, 3) := by decide +kernel
theorem dX4_isTaken_6 : decode cX4_isTaken 6 = .ok (.ifCond .le 7, 3) := by decide +kernel
theorem dX4_isTaken_9 : decode cX4_isTaken 9 = .ok (.iconst 1, 1) := by decide +kernel
theorem dX4_isTaken_10 : decode cX4_isTaken 10 = .ok (.goto 4, 3) := by decide +kernel
theorem dX4_isTaken_13 : decode cX4_isTaken 13 = .ok (.iconst 0, 1) := by decide +kernel
theorem dX4_isTaken_14 : decode cX4_isTaken 14 = .ok (.ireturn, 1) := by decide +kernel
theorem dX4_weekday_0 : decode cX4_weekday 0 = .ok (.iload_n 0, 1) := by decide +kernel
theorem dX4_weekday_1 : decode cX4_weekday 1 = .ok (.bipush 7, 2) := by decide +kernel
theorem dX4_weekday_3 : decode cX4_weekday 3 = .ok (.irem, 1) := by decide +kernel
theorem dX4_weekday_4 : decode cX4_weekday 4 = .ok (.iconst 1, 1) := by decide +kernel
theorem dX4_weekday_5 : decode cX4_weekday 5 = .ok (.iadd, 1) := by decide +kernel
theorem dX4_weekday_6 : decode cX4_weekday 6 = .ok (.ireturn, 1) := by decide +kernel
theorem dX4_codeBy_0 : decode cX4_codeBy 0 = .ok (.iconst 3, 1) := by decide +kernel
theorem dX4_codeBy_1 : decode cX4_codeBy 1 = .ok (.iload_n 0, 1) := by decide +kernel
theorem dX4_codeBy_2 : decode cX4_codeBy 2 = .ok (.imul, 1) := by decide +kernel
theorem dX4_codeBy_3 : decode cX4_codeBy 3 = .ok (.iload_n 1, 1) := by decide +kernel
theorem dX4_codeBy_4 : decode cX4_codeBy 4 = .ok (.bipush 8, 2) := by decide +kernel
theorem dX4_codeBy_6 : decode cX4_codeBy 6 = .ok (.idiv, 1) := by decide +kernel
theorem dX4_codeBy_7 : decode cX4_codeBy 7 = .ok (.iadd, 1) := by decide +kernel
theorem dX4_codeBy_8 : decode cX4_codeBy 8 = .ok (.bipush 7, 2) := by decide +kernel
theorem dX4_codeBy_10 : decode cX4_codeBy 10 = .ok (.iload_n 1, 1) := by decide +kernel
theorem dX4_codeBy_11 : decode cX4_codeBy 11 = .ok (.bipush 8, 2) := by decide +kernel
theorem dX4_codeBy_13 : decode cX4_codeBy 13 = .ok (.irem, 1) := by decide +kernel
theorem dX4_codeBy_14 : decode cX4_codeBy 14 = .ok (.imul, 1) := by decide +kernel
theorem dX4_codeBy_15 : decode cX4_codeBy 15 = .ok (.iadd, 1) := by decide +kernel
theorem dX4_codeBy_16 : decode cX4_codeBy 16 = .ok (.istore_n 2, 1) := by decide +kernel
theorem dX4_codeBy_17 : decode cX4_codeBy 17 = .ok (.sipush 1000, 3) := by decide +kernel
theorem dX4_codeBy_20 : decode cX4_codeBy 20 = .ok (.iload_n 0, 1) := by decide +kernel
theorem dX4_codeBy_21 : decode cX4_codeBy 21 = .ok (.imul, 1) := by decide +kernel
theorem dX4_codeBy_22 : decode cX4_codeBy 22 = .ok (.bipush 100, 2) := by decide +kernel
theorem dX4_codeBy_24 : decode cX4_codeBy 24 = .ok (.iload_n 1, 1) := by decide +kernel
theorem dX4_codeBy_25 : decode cX4_codeBy 25 = .ok (.bipush 8, 2) := by decide +kernel
theorem dX4_codeBy_27 : decode cX4_codeBy 27 = .ok (.idiv, 1) := by decide +kernel
theorem dX4_codeBy_28 : decode cX4_codeBy 28 = .ok (.imul, 1) := by decide +kernel
theorem dX4_codeBy_29 : decode cX4_codeBy 29 = .ok (.iadd, 1) := by decide +kernel
theorem dX4_codeBy_30 : decode cX4_codeBy 30 = .ok (.bipush 10, 2) := by decide +kernel
theorem dX4_codeBy_32 : decode cX4_codeBy 32 = .ok (.iload_n 1, 1) := by decide +kernel
theorem dX4_codeBy_33 : decode cX4_codeBy 33 = .ok (.bipush 8, 2) := by decide +kernel
theorem dX4_codeBy_35 : decode cX4_codeBy 35 = .ok (.irem, 1) := by decide +kernel
theorem dX4_codeBy_36 : decode cX4_codeBy 36 = .ok (.imul, 1) := by decide +kernel
theorem dX4_codeBy_37 : decode cX4_codeBy 37 = .ok (.iadd, 1) := by decide +kernel
theorem dX4_codeBy_38 : decode cX4_codeBy 38 = .ok (.bipush 10, 2) := by decide +kernel
theorem dX4_codeBy_40 : decode cX4_codeBy 40 = .ok (.iload_n 2, 1) := by decide +kernel
theorem dX4_codeBy_41 : decode cX4_codeBy 41 = .ok (.bipush 10, 2) := by decide +kernel
theorem dX4_codeBy_43 : decode cX4_codeBy 43 = .ok (.irem, 1) := by decide +kernel
theorem dX4_codeBy_44 : decode cX4_codeBy 44 = .ok (.isub, 1) := by decide +kernel
theorem dX4_codeBy_45 : decode cX4_codeBy 45 = .ok (.bipush 10, 2) := by decide +kernel
theorem dX4_codeBy_47 : decode cX4_codeBy 47 = .ok (.irem, 1) := by decide +kernel
theorem dX4_codeBy_48 : decode cX4_codeBy 48 = .ok (.iadd, 1) := by decide +kernel
theorem dX4_codeBy_49 : decode cX4_codeBy 49 = .ok (.ireturn, 1) := by decide +kernel
set_option maxRecDepth 20000 in
theorem ggX4_indexOf_X4_in : GoodIn wsX4_indexOf wsX4_in := goodIn_r _ [4] (by decide +kernel) (by decide +kernel)
set_option maxRecDepth 20000 in
theorem gX4_indexOf_X4_in : GoodIn wsX4_indexOf (va_wsS RX4 50 yX4_in wsX4_in) := goodIn_app (goodIn_of _ (by decide +kernel)) ggX4_indexOf_X4_in
set_option maxRecDepth 20000 in
theorem ggX4_indexOf_X4_codeBy : GoodIn wsX4_indexOf wsX4_codeBy := goodIn_r _ [7] (by decide +kernel) (by decide +kernel)
set_option maxRecDepth 20000 in
theorem gX4_indexOf_X4_codeBy : GoodIn wsX4_indexOf (va_wsS RX4 62 yX4_codeBy wsX4_codeBy) := goodIn_app (goodIn_of _ (by decide +kernel)) ggX4_indexOf_X4_codeBy
theorem dX4_indexOf_0 : decode cX4_indexOf 0 = .ok (.iload_n 0, 1) := by decide +kernel
theorem dX4_indexOf_1 : decode cX4_indexOf 1 = .ok (.sipush 1000, 3) := by decide +kernel
theorem dX4_indexOf_4 : decode cX4_indexOf 4 = .ok (.idiv, 1) := by decide +kernel
theorem dX4_indexOf_5 : decode cX4_indexOf 5 = .ok (.istore_n 1, 1) := by decide +kernel
theorem dX4_indexOf_6 : decode cX4_indexOf 6 = .ok (.iload_n 0, 1) := by decide +kernel
theorem dX4_indexOf_7 : decode cX4_indexOf 7 = .ok (.bipush 100, 2) := by decide +kernel
theorem dX4_indexOf_9 : decode cX4_indexOf 9 = .ok (.idiv, 1) := by decide +kernel
theorem dX4_indexOf_10 : decode cX4_indexOf 10 = .ok (.bipush 10, 2) := by decide +kernel
theorem dX4_indexOf_12 : decode cX4_indexOf 12 = .ok (.irem, 1) := by decide +kernel
theorem dX4_indexOf_13 : decode cX4_indexOf 13 = .ok (.istore_n 2, 1) := by decide +kernel
theorem dX4_indexOf_14 : decode cX4_indexOf 14 = .ok (.iload_n 0, 1) := by decide +kernel
theorem dX4_indexOf_15 : decode cX4_indexOf 15 = .ok (.bipush 10, 2) := by decide +kernel
theorem dX4_indexOf_17 : decode cX4_indexOf 17 = .ok (.idiv, 1) := by decide +kernel
theorem dX4_indexOf_18 : decode cX4_indexOf 18 = .ok (.bipush 10, 2) := by decide +kernel
theorem dX4_indexOf_20 : decode cX4_indexOf 20 = .ok (.irem, 1) := by decide +kernel
theorem dX4_indexOf_21 : decode cX4_indexOf 21 = .ok (.istore_n 3, 1) := by decide +kernel
theorem dX4_indexOf_22 : decode cX4_indexOf 22 = .ok (.iload_n 0, 1) := by decide +kernel
theorem dX4_indexOf_23 : decode cX4_indexOf 23 = .ok (.iconst 0, 1) := by decide +kernel
theorem dX4_indexOf_24 : decode cX4_indexOf 24 = .ok (.sipush 9999, 3) := by decide +kernel
theorem dX4_indexOf_27 : decode cX4_indexOf 27 = .ok (.invokestatic 50, 3) := by decide +kernel
theorem dX4_indexOf_30 : decode cX4_indexOf 30 = .ok (.ifCond .eq 29, 3) := by decide +kernel
theorem dX4_indexOf_33 : decode cX4_indexOf 33 = .ok (.iload_n 1, 1) := by decide +kernel
theorem dX4_indexOf_34 : decode cX4_indexOf 34 = .ok (.iconst 1, 1) := by decide +kernel
theorem dX4_indexOf_35 : decode cX4_indexOf 35 = .ok (.bipush 7, 2) := by decide +kernel
theorem dX4_indexOf_37 : decode cX4_indexOf 37 = .ok (.invokestatic 50, 3) := by decide +kernel
theorem dX4_indexOf_40 : decode cX4_indexOf 40 = .ok (.ifCond .eq 19, 3) := by decide +kernel
theorem dX4_indexOf_43 : decode cX4_indexOf 43 = .ok (.iload_n 2, 1) := by decide +kernel
theorem dX4_indexOf_44 : decode cX4_indexOf 44 = .ok (.bipush 6, 2) := by decide +kernel
theorem dX4_indexOf_46 : decode cX4_indexOf 46 = .ok (.if_icmp .ge 13, 3) := by decide +kernel
theorem dX4_indexOf_49 : decode cX4_indexOf 49 = .ok (.iload_n 3, 1) := by decide +kernel
theorem dX4_indexOf_50 : decode cX4_indexOf 50 = .ok (.bipush 8, 2) := by decide +kernel
theorem dX4_indexOf_52 : decode cX4_indexOf 52 = .ok (.if_icmp .ge 7, 3) := by decide +kernel
theorem dX4_indexOf_55 : decode cX4_indexOf 55 = .ok (.iconst 1, 1) := by decide +kernel
theorem dX4_indexOf_56 : decode cX4_indexOf 56 = .ok (.goto 4, 3) := by decide +kernel
theorem dX4_indexOf_59 : decode cX4_indexOf 59 = .ok (.iconst 0, 1) := by decide +kernel
theorem dX4_indexOf_60 : decode cX4_indexOf 60 = .ok (.istore 4, 2) := by decide +kernel
theorem dX4_indexOf_62 : decode cX4_indexOf 62 = .ok (.iload 4, 2) := by decide +kernel
theorem dX4_indexOf_64 : decode cX4_indexOf 64 = .ok (.ifCond .eq 33, 3) := by decide +kernel
theorem dX4_indexOf_67 : decode cX4_indexOf 67 = .ok (.iload_n 1, 1) := by decide +kernel
theorem dX4_indexOf_68 : decode cX4_indexOf 68 = .ok (.bipush 8, 2) := by decide +kernel
theorem dX4_indexOf_70 : decode cX4_indexOf 70 = .ok (.iload_n 2, 1) := by decide +kernel
theorem dX4_indexOf_71 : decode cX4_indexOf 71 = .ok (.imul, 1) := by decide +kernel
theorem dX4_indexOf_72 : decode cX4_indexOf 72 = .ok (.iload_n 3, 1) := by decide +kernel
theorem dX4_indexOf_73 : decode cX4_indexOf 73 = .ok (.iadd, 1) := by decide +kernel
theorem dX4_indexOf_74 : decode cX4_indexOf 74 = .ok (.invokestatic 62, 3) := by decide +kernel
theorem dX4_indexOf_77 : decode cX4_indexOf 77 = .ok (.iload_n 0, 1) := by decide +kernel
theorem dX4_indexOf_78 : decode cX4_indexOf 78 = .ok (.if_icmp .ne 19, 3) := by decide +kernel
theorem dX4_indexOf_81 : decode cX4_indexOf 81 = .ok (.bipush 48, 2) := by decide +kernel
theorem dX4_indexOf_83 : decode cX4_indexOf 83 = .ok (.iload_n 1, 1) := by decide +kernel
theorem dX4_indexOf_84 : decode cX4_indexOf 84 = .ok (.iconst 1, 1) := by decide +kernel
theorem dX4_indexOf_85 : decode cX4_indexOf 85 = .ok (.isub, 1) := by decide +kernel
theorem dX4_indexOf_86 : decode cX4_indexOf 86 = .ok (.imul, 1) := by decide +kernel
theorem dX4_indexOf_87 : decode cX4_indexOf 87 = .ok (.bipush 8, 2) := by decide +kernel
theorem dX4_indexOf_89 : decode cX4_indexOf 89 = .ok (.iload_n 2, 1) := by decide +kernel
theorem dX4_indexOf_90 : decode cX4_indexOf 90 = .ok (.imul, 1) := by decide +kernel
theorem dX4_indexOf_91 : decode cX4_indexOf 91 = .ok (.iadd, 1) := by decide +kernel
theorem dX4_indexOf_92 : decode cX4_indexOf 92 = .ok (.iload_n 3, 1) := by decide +kernel
theorem dX4_indexOf_93 : decode cX4_indexOf 93 = .ok (.iadd, 1) := by decide +kernel
theorem dX4_indexOf_94 : decode cX4_indexOf 94 = .ok (.goto 5, 3) := by decide +kernel
theorem dX4_indexOf_97 : decode cX4_indexOf 97 = .ok (.bipush (-6), 2) := by decide +kernel
theorem dX4_indexOf_99 : decode cX4_indexOf 99 = .ok (.ireturn, 1) := by decide +kernel
set_option maxRecDepth 20000 in
theorem ggX4_codeOn_X4_at : GoodIn wsX4_codeOn wsX4_at := goodIn_r _ [5, 6, 10, 11, 12, 13, 14, 15, 16, 17, 18, 19, 20, 21, 22, 23] (by decide +kernel) (by decide +kernel)
set_option maxRecDepth 20000 in
theorem gX4_codeOn_X4_at : GoodIn wsX4_codeOn (wsV RX4 58 RX4 yX4_at wsX4_at) := goodIn_app (goodIn_of _ (by decide +kernel)) ggX4_codeOn_X4_at
set_option maxRecDepth 20000 in
theorem ggX4_codeOn_X4_codeBy : GoodIn wsX4_codeOn wsX4_codeBy := goodIn_r _ [9] (by decide +kernel) (by decide +kernel)
set_option maxRecDepth 20000 in
theorem gX4_codeOn_X4_codeBy : GoodIn wsX4_codeOn (va_wsS RX4 62 yX4_codeBy wsX4_codeBy) := goodIn_app (goodIn_of _ (by decide +kernel)) ggX4_codeOn_X4_codeBy
theorem dX4_codeOn_0 : decode cX4_codeOn 0 = .ok (.aload_n 0, 1) := by decide +kernel
theorem dX4_codeOn_1 : decode cX4_codeOn 1 = .ok (.iload_n 1, 1) := by decide +kernel
theorem dX4_codeOn_2 : decode cX4_codeOn 2 = .ok (.iconst 3, 1) := by decide +kernel
theorem dX4_codeOn_3 : decode cX4_codeOn 3 = .ok (.invokevirtual 58, 3) := by decide +kernel
theorem dX4_codeOn_6 : decode cX4_codeOn 6 = .ok (.iload_n 1, 1) := by decide +kernel
theorem dX4_codeOn_7 : decode cX4_codeOn 7 = .ok (.invokestatic 62, 3) := by decide +kernel
theorem dX4_codeOn_10 : decode cX4_codeOn 10 = .ok (.ireturn, 1) := by decide +kernel
set_option maxRecDepth 20000 in
theorem ggX4_placeBy_X4_indexOf : GoodIn wsX4_placeBy wsX4_indexOf := goodIn_r _ [4, 5, 6, 3, 7, 8, 9, 10] (by decide +kernel) (by decide +kernel)
set_option maxRecDepth 20000 in
theorem gX4_placeBy_X4_indexOf : GoodIn wsX4_placeBy (va_wsS RX4 65 yX4_indexOf wsX4_indexOf) := goodIn_app (goodIn_of _ (by decide +kernel)) ggX4_placeBy_X4_indexOf
set_option maxRecDepth 20000 in
theorem ggX4_placeBy_X4_isTaken : GoodIn wsX4_placeBy wsX4_isTaken := goodIn_r _ [14, 15, 16, 17, 3, 18, 19, 20, 21, 22, 23, 24, 25, 26, 27, 28, 29, 30, 31, 32, 33] (by decide +kernel) (by decide +kernel)
set_option maxRecDepth 20000 in
theorem gX4_placeBy_X4_isTaken : GoodIn wsX4_placeBy (wsV RX4 69 RX4 yX4_isTaken wsX4_isTaken) := goodIn_app (goodIn_of _ (by decide +kernel)) ggX4_placeBy_X4_isTaken
set_option maxRecDepth 20000 in
theorem ggX4_placeBy_X4_at : GoodIn wsX4_placeBy wsX4_at := goodIn_r _ [18, 19, 20, 21, 22, 23, 24, 25, 26, 27, 28, 29, 30, 31, 32, 33] (by decide +kernel) (by decide +kernel)
set_option maxRecDepth 20000 in
theorem gX4_placeBy_X4_at : GoodIn wsX4_placeBy (wsV RX4 58 RX4 yX4_at wsX4_at) := goodIn_app (goodIn_of _ (by decide +kernel)) ggX4_placeBy_X4_at
theorem dX4_placeBy_0 : decode cX4_placeBy 0 = .ok (.iload_n 1, 1) := by decide +kernel
theorem dX4_placeBy_1 : decode cX4_placeBy 1 = .ok (.invokestatic 65, 3) := by decide +kernel
theorem dX4_placeBy_4 : decode cX4_placeBy 4 = .ok (.istore_n 2, 1) := by decide +kernel
theorem dX4_placeBy_5 : decode cX4_placeBy 5 = .ok (.iload_n 2, 1) := by decide +kernel
theorem dX4_placeBy_6 : decode cX4_placeBy 6 = .ok (.bipush (-6), 2) := by decide +kernel
theorem dX4_placeBy_8 : decode cX4_placeBy 8 = .ok (.if_icmp .ne 8, 3) := by decide +kernel
theorem dX4_placeBy_11 : decode cX4_placeBy 11 = .ok (.bipush (-6), 2) := by decide +kernel
theorem dX4_placeBy_13 : decode cX4_placeBy 13 = .ok (.goto 7, 3) := by decide +kernel
theorem dX4_placeBy_16 : decode cX4_placeBy 16 = .ok (.iload_n 2, 1) := by decide +kernel
theorem dX4_placeBy_17 : decode cX4_placeBy 17 = .ok (.bipush 48, 2) := by decide +kernel
theorem dX4_placeBy_19 : decode cX4_placeBy 19 = .ok (.irem, 1) := by decide +kernel
theorem dX4_placeBy_20 : decode cX4_placeBy 20 = .ok (.istore_n 3, 1) := by decide +kernel
theorem dX4_placeBy_21 : decode cX4_placeBy 21 = .ok (.iload_n 3, 1) := by decide +kernel
theorem dX4_placeBy_22 : decode cX4_placeBy 22 = .ok (.bipush (-6), 2) := by decide +kernel
theorem dX4_placeBy_24 : decode cX4_placeBy 24 = .ok (.if_icmp .eq 30, 3) := by decide +kernel
theorem dX4_placeBy_27 : decode cX4_placeBy 27 = .ok (.aload_n 0, 1) := by decide +kernel
theorem dX4_placeBy_28 : decode cX4_placeBy 28 = .ok (.iload_n 3, 1) := by decide +kernel
theorem dX4_placeBy_29 : decode cX4_placeBy 29 = .ok (.invokevirtual 69, 3) := by decide +kernel
theorem dX4_placeBy_32 : decode cX4_placeBy 32 = .ok (.ifCond .eq 22, 3) := by decide +kernel
theorem dX4_placeBy_35 : decode cX4_placeBy 35 = .ok (.aload_n 0, 1) := by decide +kernel
theorem dX4_placeBy_36 : decode cX4_placeBy 36 = .ok (.iload_n 3, 1) := by decide +kernel
theorem dX4_placeBy_37 : decode cX4_placeBy 37 = .ok (.iconst 3, 1) := by decide +kernel
theorem dX4_placeBy_38 : decode cX4_placeBy 38 = .ok (.invokevirtual 58, 3) := by decide +kernel
theorem dX4_placeBy_41 : decode cX4_placeBy 41 = .ok (.iload_n 2, 1) := by decide +kernel
theorem dX4_placeBy_42 : decode cX4_placeBy 42 = .ok (.bipush 48, 2) := by decide +kernel
theorem dX4_placeBy_44 : decode cX4_placeBy 44 = .ok (.idiv, 1) := by decide +kernel
theorem dX4_placeBy_45 : decode cX4_placeBy 45 = .ok (.iconst 1, 1) := by decide +kernel
theorem dX4_placeBy_46 : decode cX4_placeBy 46 = .ok (.iadd, 1) := by decide +kernel
theorem dX4_placeBy_47 : decode cX4_placeBy 47 = .ok (.if_icmp .ne 7, 3) := by decide +kernel
theorem dX4_placeBy_50 : decode cX4_placeBy 50 = .ok (.iload_n 3, 1) := by decide +kernel
theorem dX4_placeBy_51 : decode cX4_placeBy 51 = .ok (.goto 5, 3) := by decide +kernel
theorem dX4_placeBy_54 : decode cX4_placeBy 54 = .ok (.bipush (-6), 2) := by decide +kernel
theorem dX4_placeBy_56 : decode cX4_placeBy 56 = .ok (.ireturn, 1) := by decide +kernel
theorem dX4_restsOf_0 : decode cX4_restsOf 0 = .ok (.iload_n 1, 1) := by decide +kernel
theorem dX4_restsOf_1 : decode cX4_restsOf 1 = .ok (.bipush (-6), 2) := by decide +kernel
theorem dX4_restsOf_3 : decode cX4_restsOf 3 = .ok (.if_icmp .eq 18, 3) := by decide +kernel
theorem dX4_restsOf_6 : decode cX4_restsOf 6 = .ok (.aload_n 0, 1) := by decide +kernel
theorem dX4_restsOf_7 : decode cX4_restsOf 7 = .ok (.getfield 7, 3) := by decide +kernel
theorem dX4_restsOf_10 : decode cX4_restsOf 10 = .ok (.sipush 204, 3) := by decide +kernel
theorem dX4_restsOf_13 : decode cX4_restsOf 13 = .ok (.iload_n 1, 1) := by decide +kernel
theorem dX4_restsOf_14 : decode cX4_restsOf 14 = .ok (.iadd, 1) := by decide +kernel
theorem dX4_restsOf_15 : decode cX4_restsOf 15 = .ok (.iaload, 1) := by decide +kernel
theorem dX4_restsOf_16 : decode cX4_restsOf 16 = .ok (.bipush (-6), 2) := by decide +kernel
theorem dX4_restsOf_18 : decode cX4_restsOf 18 = .ok (.if_icmp .ne 8, 3) := by decide +kernel
theorem dX4_restsOf_21 : decode cX4_restsOf 21 = .ok (.bipush (-6), 2) := by decide +kernel
theorem dX4_restsOf_23 : decode cX4_restsOf 23 = .ok (.goto 20, 3) := by decide +kernel
theorem dX4_restsOf_26 : decode cX4_restsOf 26 = .ok (.aload_n 0, 1) := by decide +kernel
theorem dX4_restsOf_27 : decode cX4_restsOf 27 = .ok (.getfield 7, 3) := by decide +kernel
theorem dX4_restsOf_30 : decode cX4_restsOf 30 = .ok (.sipush 204, 3) := by decide +kernel
theorem dX4_restsOf_33 : decode cX4_restsOf 33 = .ok (.iload_n 1, 1) := by decide +kernel
theorem dX4_restsOf_34 : decode cX4_restsOf 34 = .ok (.iadd, 1) := by decide +kernel
theorem dX4_restsOf_35 : decode cX4_restsOf 35 = .ok (.iaload, 1) := by decide +kernel
theorem dX4_restsOf_36 : decode cX4_restsOf 36 = .ok (.aload_n 0, 1) := by decide +kernel
theorem dX4_restsOf_37 : decode cX4_restsOf 37 = .ok (.getfield 7, 3) := by decide +kernel
theorem dX4_restsOf_40 : decode cX4_restsOf 40 = .ok (.iconst 0, 1) := by decide +kernel
theorem dX4_restsOf_41 : decode cX4_restsOf 41 = .ok (.iaload, 1) := by decide +kernel
theorem dX4_restsOf_42 : decode cX4_restsOf 42 = .ok (.iadd, 1) := by decide +kernel
theorem dX4_restsOf_43 : decode cX4_restsOf 43 = .ok (.istore_n 2, 1) := by decide +kernel
theorem dX4_restsOf_44 : decode cX4_restsOf 44 = .ok (.iload_n 2, 1) := by decide +kernel
theorem dX4_restsOf_45 : decode cX4_restsOf 45 = .ok (.aload_n 0, 1) := by decide +kernel
theorem dX4_restsOf_46 : decode cX4_restsOf 46 = .ok (.getfield 7, 3) := by decide +kernel
theorem dX4_restsOf_49 : decode cX4_restsOf 49 = .ok (.iconst 5, 1) := by decide +kernel
theorem dX4_restsOf_50 : decode cX4_restsOf 50 = .ok (.iaload, 1) := by decide +kernel
theorem dX4_restsOf_51 : decode cX4_restsOf 51 = .ok (.if_icmp .le 7, 3) := by decide +kernel
theorem dX4_restsOf_54 : decode cX4_restsOf 54 = .ok (.iload_n 2, 1) := by decide +kernel
theorem dX4_restsOf_55 : decode cX4_restsOf 55 = .ok (.goto 5, 3) := by decide +kernel
theorem dX4_restsOf_58 : decode cX4_restsOf 58 = .ok (.bipush (-6), 2) := by decide +kernel
theorem dX4_restsOf_60 : decode cX4_restsOf 60 = .ok (.ireturn, 1) := by decide +kernel
set_option maxRecDepth 20000 in
theorem ggX4_rests_X4_weekday : GoodIn wsX4_rests wsX4_weekday := goodIn_r _ [5] (by decide +kernel) (by decide +kernel)
set_option maxRecDepth 20000 in
theorem gX4_rests_X4_weekday : GoodIn wsX4_rests (va_wsS RX4 73 yX4_weekday wsX4_weekday) := goodIn_app (goodIn_of _ (by decide +kernel)) ggX4_rests_X4_weekday
set_option maxRecDepth 20000 in
theorem ggX4_rests_X4_restsOf : GoodIn wsX4_rests wsX4_restsOf := goodIn_r _ [9, 1, 10, 11, 12, 13, 14, 15, 16, 17, 18, 19, 20, 21, 22, 23] (by decide +kernel) (by decide +kernel)
set_option maxRecDepth 20000 in
theorem gX4_rests_X4_restsOf : GoodIn wsX4_rests (wsV RX4 76 RX4 yX4_restsOf wsX4_restsOf) := goodIn_app (goodIn_of _ (by decide +kernel)) ggX4_rests_X4_restsOf
theorem dX4_rests_0 : decode cX4_rests 0 = .ok (.aload_n 0, 1) := by decide +kernel
theorem dX4_rests_1 : decode cX4_rests 1 = .ok (.bipush 48, 2) := by decide +kernel
theorem dX4_rests_3 : decode cX4_rests 3 = .ok (.aload_n 0, 1) := by decide +kernel
theorem dX4_rests_4 : decode cX4_rests 4 = .ok (.getfield 7, 3) := by decide +kernel
theorem dX4_rests_7 : decode cX4_rests 7 = .ok (.iconst 5, 1) := by decide +kernel
theorem dX4_rests_8 : decode cX4_rests 8 = .ok (.iaload, 1) := by decide +kernel
theorem dX4_rests_9 : decode cX4_rests 9 = .ok (.invokestatic 73, 3) := by decide +kernel
theorem dX4_rests_12 : decode cX4_rests 12 = .ok (.iconst 1, 1) := by decide +kernel
theorem dX4_rests_13 : decode cX4_rests 13 = .ok (.isub, 1) := by decide +kernel
theorem dX4_rests_14 : decode cX4_rests 14 = .ok (.imul, 1) := by decide +kernel
theorem dX4_rests_15 : decode cX4_rests 15 = .ok (.iload_n 1, 1) := by decide +kernel
theorem dX4_rests_16 : decode cX4_rests 16 = .ok (.iadd, 1) := by decide +kernel
theorem dX4_rests_17 : decode cX4_rests 17 = .ok (.invokevirtual 76, 3) := by decide +kernel
theorem dX4_rests_20 : decode cX4_rests 20 = .ok (.bipush (-6), 2) := by decide +kernel
theorem dX4_rests_22 : decode cX4_rests 22 = .ok (.if_icmp .eq 7, 3) := by decide +kernel
theorem dX4_rests_25 : decode cX4_rests 25 = .ok (.iconst 1, 1) := by decide +kernel
theorem dX4_rests_26 : decode cX4_rests 26 = .ok (.goto 4, 3) := by decide +kernel
theorem dX4_rests_29 : decode cX4_rests 29 = .ok (.iconst 0, 1) := by decide +kernel
theorem dX4_rests_30 : decode cX4_rests 30 = .ok (.ireturn, 1) := by decide +kernel
set_option maxRecDepth 20000 in
theorem ggX4_firstPlace_X4_isTaken : GoodIn wsX4_firstPlace wsX4_isTaken := goodIn_r _ [5, 6, 7, 8, 4, 9, 10, 22, 23, 24, 25, 26, 27, 28, 29, 30, 31, 32, 33, 34, 35] (by decide +kernel) (by decide +kernel)
set_option maxRecDepth 20000 in
theorem gX4_firstPlace_X4_isTaken : GoodIn wsX4_firstPlace (wsV RX4 69 RX4 yX4_isTaken wsX4_isTaken) := goodIn_app (goodIn_of _ (by decide +kernel)) ggX4_firstPlace_X4_isTaken
set_option maxRecDepth 20000 in
theorem ggX4_firstPlace_X4_rests : GoodIn wsX4_firstPlace wsX4_rests := goodIn_r _ [14, 10, 15, 16, 4, 17, 18, 19, 20, 21, 22, 23, 24, 25, 26, 27, 28, 29, 30, 31, 32, 33, 34, 35] (by decide +kernel) (by decide +kernel)
set_option maxRecDepth 20000 in
theorem gX4_firstPlace_X4_rests : GoodIn wsX4_firstPlace (wsV RX4 79 RX4 yX4_rests wsX4_rests) := goodIn_app (goodIn_of _ (by decide +kernel)) ggX4_firstPlace_X4_rests
theorem dX4_firstPlace_0 : decode cX4_firstPlace 0 = .ok (.bipush 8, 2) := by decide +kernel
theorem dX4_firstPlace_2 : decode cX4_firstPlace 2 = .ok (.iload_n 1, 1) := by decide +kernel
theorem dX4_firstPlace_3 : decode cX4_firstPlace 3 = .ok (.imul, 1) := by decide +kernel
theorem dX4_firstPlace_4 : decode cX4_firstPlace 4 = .ok (.istore_n 3, 1) := by decide +kernel
theorem dX4_firstPlace_5 : decode cX4_firstPlace 5 = .ok (.iload_n 3, 1) := by decide +kernel
theorem dX4_firstPlace_6 : decode cX4_firstPlace 6 = .ok (.bipush 8, 2) := by decide +kernel
theorem dX4_firstPlace_8 : decode cX4_firstPlace 8 = .ok (.iload_n 2, 1) := by decide +kernel
theorem dX4_firstPlace_9 : decode cX4_firstPlace 9 = .ok (.iconst 1, 1) := by decide +kernel
theorem dX4_firstPlace_10 : decode cX4_firstPlace 10 = .ok (.iadd, 1) := by decide +kernel
theorem dX4_firstPlace_11 : decode cX4_firstPlace 11 = .ok (.imul, 1) := by decide +kernel
theorem dX4_firstPlace_12 : decode cX4_firstPlace 12 = .ok (.if_icmp .ge 27, 3) := by decide +kernel
theorem dX4_firstPlace_15 : decode cX4_firstPlace 15 = .ok (.aload_n 0, 1) := by decide +kernel
theorem dX4_firstPlace_16 : decode cX4_firstPlace 16 = .ok (.iload_n 3, 1) := by decide +kernel
theorem dX4_firstPlace_17 : decode cX4_firstPlace 17 = .ok (.invokevirtual 69, 3) := by decide +kernel
theorem dX4_firstPlace_20 : decode cX4_firstPlace 20 = .ok (.ifCond .ne 13, 3) := by decide +kernel
theorem dX4_firstPlace_23 : decode cX4_firstPlace 23 = .ok (.aload_n 0, 1) := by decide +kernel
theorem dX4_firstPlace_24 : decode cX4_firstPlace 24 = .ok (.iload_n 3, 1) := by decide +kernel
theorem dX4_firstPlace_25 : decode cX4_firstPlace 25 = .ok (.invokevirtual 79, 3) := by decide +kernel
theorem dX4_firstPlace_28 : decode cX4_firstPlace 28 = .ok (.ifCond .ne 5, 3) := by decide +kernel
theorem dX4_firstPlace_31 : decode cX4_firstPlace 31 = .ok (.iload_n 3, 1) := by decide +kernel
theorem dX4_firstPlace_32 : decode cX4_firstPlace 32 = .ok (.ireturn, 1) := by decide +kernel
theorem dX4_firstPlace_33 : decode cX4_firstPlace 33 = .ok (.iinc 3 1, 3) := by decide +kernel
theorem dX4_firstPlace_36 : decode cX4_firstPlace 36 = .ok (.goto (-31), 3) := by decide +kernel
theorem dX4_firstPlace_39 : decode cX4_firstPlace 39 = .ok (.bipush (-6), 2) := by decide +kernel
theorem dX4_firstPlace_41 : decode cX4_firstPlace 41 = .ok (.ireturn, 1) := by decide +kernel
set_option maxRecDepth 20000 in
theorem ggX4_refusePlace_X4_isTaken : GoodIn wsX4_refusePlace wsX4_isTaken := goodIn_r _ [5, 6, 7, 8, 4, 9, 10, 17, 18, 19, 20, 21, 22, 23, 24, 25, 26, 27, 28, 29, 30] (by decide +kernel) (by decide +kernel)
set_option maxRecDepth 20000 in
theorem gX4_refusePlace_X4_isTaken : GoodIn wsX4_refusePlace (wsV RX4 69 RX4 yX4_isTaken wsX4_isTaken) := goodIn_app (goodIn_of _ (by decide +kernel)) ggX4_refusePlace_X4_isTaken
set_option maxRecDepth 20000 in
theorem ggX4_refusePlace_X4_refuseBy : GoodIn wsX4_refusePlace wsX4_refuseBy := goodIn_r _ [14, 15, 16, 17, 18, 19, 20, 21, 22, 23, 24, 25, 26, 27, 28, 29, 30] (by decide +kernel) (by decide +kernel)
set_option maxRecDepth 20000 in
theorem gX4_refusePlace_X4_refuseBy : GoodIn wsX4_refusePlace (wsV RX4 82 RX4 yX4_refuseBy wsX4_refuseBy) := goodIn_app (goodIn_of _ (by decide +kernel)) ggX4_refusePlace_X4_refuseBy
theorem dX4_refusePlace_0 : decode cX4_refusePlace 0 = .ok (.iconst 0, 1) := by decide +kernel
theorem dX4_refusePlace_1 : decode cX4_refusePlace 1 = .ok (.istore_n 3, 1) := by decide +kernel
theorem dX4_refusePlace_2 : decode cX4_refusePlace 2 = .ok (.bipush 8, 2) := by decide +kernel
theorem dX4_refusePlace_4 : decode cX4_refusePlace 4 = .ok (.iload_n 1, 1) := by decide +kernel
theorem dX4_refusePlace_5 : decode cX4_refusePlace 5 = .ok (.imul, 1) := by decide +kernel
theorem dX4_refusePlace_6 : decode cX4_refusePlace 6 = .ok (.istore 4, 2) := by decide +kernel
theorem dX4_refusePlace_8 : decode cX4_refusePlace 8 = .ok (.iload 4, 2) := by decide +kernel
theorem dX4_refusePlace_10 : decode cX4_refusePlace 10 = .ok (.bipush 8, 2) := by decide +kernel
theorem dX4_refusePlace_12 : decode cX4_refusePlace 12 = .ok (.iload_n 2, 1) := by decide +kernel
theorem dX4_refusePlace_13 : decode cX4_refusePlace 13 = .ok (.iconst 1, 1) := by decide +kernel
theorem dX4_refusePlace_14 : decode cX4_refusePlace 14 = .ok (.iadd, 1) := by decide +kernel
theorem dX4_refusePlace_15 : decode cX4_refusePlace 15 = .ok (.imul, 1) := by decide +kernel
theorem dX4_refusePlace_16 : decode cX4_refusePlace 16 = .ok (.if_icmp .ge 28, 3) := by decide +kernel
theorem dX4_refusePlace_19 : decode cX4_refusePlace 19 = .ok (.iload_n 3, 1) := by decide +kernel
theorem dX4_refusePlace_20 : decode cX4_refusePlace 20 = .ok (.ifCond .ne 12, 3) := by decide +kernel
theorem dX4_refusePlace_23 : decode cX4_refusePlace 23 = .ok (.aload_n 0, 1) := by decide +kernel
theorem dX4_refusePlace_24 : decode cX4_refusePlace 24 = .ok (.iload 4, 2) := by decide +kernel
theorem dX4_refusePlace_26 : decode cX4_refusePlace 26 = .ok (.invokevirtual 69, 3) := by decide +kernel
theorem dX4_refusePlace_29 : decode cX4_refusePlace 29 = .ok (.ifCond .ne 7, 3) := by decide +kernel
theorem dX4_refusePlace_32 : decode cX4_refusePlace 32 = .ok (.iconst 1, 1) := by decide +kernel
theorem dX4_refusePlace_33 : decode cX4_refusePlace 33 = .ok (.goto 4, 3) := by decide +kernel
theorem dX4_refusePlace_36 : decode cX4_refusePlace 36 = .ok (.iconst 0, 1) := by decide +kernel
theorem dX4_refusePlace_37 : decode cX4_refusePlace 37 = .ok (.istore_n 3, 1) := by decide +kernel
theorem dX4_refusePlace_38 : decode cX4_refusePlace 38 = .ok (.iinc 4 1, 3) := by decide +kernel
theorem dX4_refusePlace_41 : decode cX4_refusePlace 41 = .ok (.goto (-33), 3) := by decide +kernel
theorem dX4_refusePlace_44 : decode cX4_refusePlace 44 = .ok (.aload_n 0, 1) := by decide +kernel
theorem dX4_refusePlace_45 : decode cX4_refusePlace 45 = .ok (.iconst 1, 1) := by decide +kernel
theorem dX4_refusePlace_46 : decode cX4_refusePlace 46 = .ok (.iload_n 3, 1) := by decide +kernel
theorem dX4_refusePlace_47 : decode cX4_refusePlace 47 = .ok (.ifCond .eq 7, 3) := by decide +kernel
theorem dX4_refusePlace_50 : decode cX4_refusePlace 50 = .ok (.iconst 5, 1) := by decide +kernel
theorem dX4_refusePlace_51 : decode cX4_refusePlace 51 = .ok (.goto 5, 3) := by decide +kernel
theorem dX4_refusePlace_54 : decode cX4_refusePlace 54 = .ok (.bipush 6, 2) := by decide +kernel
theorem dX4_refusePlace_56 : decode cX4_refusePlace 56 = .ok (.bipush (-4), 2) := by decide +kernel
theorem dX4_refusePlace_58 : decode cX4_refusePlace 58 = .ok (.invokevirtual 82, 3) := by decide +kernel
theorem dX4_refusePlace_61 : decode cX4_refusePlace 61 = .ok (.ireturn, 1) := by decide +kernel
theorem dX4_refuseBy_0 : decode cX4_refuseBy 0 = .ok (.aload_n 0, 1) := by decide +kernel
theorem dX4_refuseBy_1 : decode cX4_refuseBy 1 = .ok (.iload_n 1, 1) := by decide +kernel
theorem dX4_refuseBy_2 : decode cX4_refuseBy 2 = .ok (.putfield 22, 3) := by decide +kernel
theorem dX4_refuseBy_5 : decode cX4_refuseBy 5 = .ok (.aload_n 0, 1) := by decide +kernel
theorem dX4_refuseBy_6 : decode cX4_refuseBy 6 = .ok (.iload_n 2, 1) := by decide +kernel
theorem dX4_refuseBy_7 : decode cX4_refuseBy 7 = .ok (.putfield 26, 3) := by decide +kernel
theorem dX4_refuseBy_10 : decode cX4_refuseBy 10 = .ok (.iload_n 3, 1) := by decide +kernel
theorem dX4_refuseBy_11 : decode cX4_refuseBy 11 = .ok (.ireturn, 1) := by decide +kernel
set_option maxRecDepth 20000 in
theorem ggX4_refuseCode_X4_indexOf : GoodIn wsX4_refuseCode wsX4_indexOf := goodIn_r _ [4, 5, 6, 3, 7, 8, 9, 10] (by decide +kernel) (by decide +kernel)
set_option maxRecDepth 20000 in
theorem gX4_refuseCode_X4_indexOf : GoodIn wsX4_refuseCode (va_wsS RX4 65 yX4_indexOf wsX4_indexOf) := goodIn_app (goodIn_of _ (by decide +kernel)) ggX4_refuseCode_X4_indexOf
set_option maxRecDepth 20000 in
theorem ggX4_refuseCode_X4_restsOf : GoodIn wsX4_refuseCode wsX4_restsOf := goodIn_r _ [14, 15, 22, 23, 24, 25, 26, 27, 28, 29, 30, 31, 32, 33, 34, 35] (by decide +kernel) (by decide +kernel)
set_option maxRecDepth 20000 in
theorem gX4_refuseCode_X4_restsOf : GoodIn wsX4_refuseCode (wsV RX4 76 RX4 yX4_restsOf wsX4_restsOf) := goodIn_app (goodIn_of _ (by decide +kernel)) ggX4_refuseCode_X4_restsOf
set_option maxRecDepth 20000 in
theorem ggX4_refuseCode_X4_refuseBy : GoodIn wsX4_refuseCode wsX4_refuseBy := goodIn_r _ [19, 20, 21, 22, 23, 24, 25, 26, 27, 28, 29, 30, 31, 32, 33, 34, 35] (by decide +kernel) (by decide +kernel)
set_option maxRecDepth 20000 in
theorem gX4_refuseCode_X4_refuseBy : GoodIn wsX4_refuseCode (wsV RX4 82 RX4 yX4_refuseBy wsX4_refuseBy) := goodIn_app (goodIn_of _ (by decide +kernel)) ggX4_refuseCode_X4_refuseBy
theorem dX4_refuseCode_0 : decode cX4_refuseCode 0 = .ok (.aload_n 0, 1) := by decide +kernel
theorem dX4_refuseCode_1 : decode cX4_refuseCode 1 = .ok (.iconst 4, 1) := by decide +kernel
theorem dX4_refuseCode_2 : decode cX4_refuseCode 2 = .ok (.aload_n 0, 1) := by decide +kernel
theorem dX4_refuseCode_3 : decode cX4_refuseCode 3 = .ok (.iload_n 1, 1) := by decide +kernel
theorem dX4_refuseCode_4 : decode cX4_refuseCode 4 = .ok (.invokestatic 65, 3) := by decide +kernel
theorem dX4_refuseCode_7 : decode cX4_refuseCode 7 = .ok (.invokevirtual 76, 3) := by decide +kernel
theorem dX4_refuseCode_10 : decode cX4_refuseCode 10 = .ok (.bipush (-6), 2) := by decide +kernel
theorem dX4_refuseCode_12 : decode cX4_refuseCode 12 = .ok (.if_icmp .ne 8, 3) := by decide +kernel
theorem dX4_refuseCode_15 : decode cX4_refuseCode 15 = .ok (.bipush (-6), 2) := by decide +kernel
theorem dX4_refuseCode_17 : decode cX4_refuseCode 17 = .ok (.goto 4, 3) := by decide +kernel
theorem dX4_refuseCode_20 : decode cX4_refuseCode 20 = .ok (.iconst 5, 1) := by decide +kernel
theorem dX4_refuseCode_21 : decode cX4_refuseCode 21 = .ok (.iconst (-1), 1) := by decide +kernel
theorem dX4_refuseCode_22 : decode cX4_refuseCode 22 = .ok (.invokevirtual 82, 3) := by decide +kernel
theorem dX4_refuseCode_25 : decode cX4_refuseCode 25 = .ok (.ireturn, 1) := by decide +kernel
set_option maxRecDepth 20000 in
theorem ggX4_lay_X4_weekday : GoodIn wsX4_lay wsX4_weekday := goodIn_r _ [5] (by decide +kernel) (by decide +kernel)
set_option maxRecDepth 20000 in
theorem gX4_lay_X4_weekday : GoodIn wsX4_lay (va_wsS RX4 73 yX4_weekday wsX4_weekday) := goodIn_app (goodIn_of _ (by decide +kernel)) ggX4_lay_X4_weekday
theorem dX4_lay_0 : decode cX4_lay 0 = .ok (.bipush 12, 2) := by decide +kernel
theorem dX4_lay_2 : decode cX4_lay 2 = .ok (.iconst 4, 1) := by decide +kernel
theorem dX4_lay_3 : decode cX4_lay 3 = .ok (.iload_n 1, 1) := by decide +kernel
theorem dX4_lay_4 : decode cX4_lay 4 = .ok (.imul, 1) := by decide +kernel
theorem dX4_lay_5 : decode cX4_lay 5 = .ok (.iadd, 1) := by decide +kernel
theorem dX4_lay_6 : decode cX4_lay 6 = .ok (.istore 5, 2) := by decide +kernel
theorem dX4_lay_8 : decode cX4_lay 8 = .ok (.aload_n 0, 1) := by decide +kernel
theorem dX4_lay_9 : decode cX4_lay 9 = .ok (.getfield 7, 3) := by decide +kernel
theorem dX4_lay_12 : decode cX4_lay 12 = .ok (.iload 5, 2) := by decide +kernel
theorem dX4_lay_14 : decode cX4_lay 14 = .ok (.iload_n 2, 1) := by decide +kernel
theorem dX4_lay_15 : decode cX4_lay 15 = .ok (.iconst 1, 1) := by decide +kernel
theorem dX4_lay_16 : decode cX4_lay 16 = .ok (.iadd, 1) := by decide +kernel
theorem dX4_lay_17 : decode cX4_lay 17 = .ok (.iastore, 1) := by decide +kernel
theorem dX4_lay_18 : decode cX4_lay 18 = .ok (.aload_n 0, 1) := by decide +kernel
theorem dX4_lay_19 : decode cX4_lay 19 = .ok (.getfield 7, 3) := by decide +kernel
theorem dX4_lay_22 : decode cX4_lay 22 = .ok (.iload 5, 2) := by decide +kernel
theorem dX4_lay_24 : decode cX4_lay 24 = .ok (.iconst 1, 1) := by decide +kernel
theorem dX4_lay_25 : decode cX4_lay 25 = .ok (.iadd, 1) := by decide +kernel
theorem dX4_lay_26 : decode cX4_lay 26 = .ok (.iload_n 3, 1) := by decide +kernel
theorem dX4_lay_27 : decode cX4_lay 27 = .ok (.iastore, 1) := by decide +kernel
theorem dX4_lay_28 : decode cX4_lay 28 = .ok (.aload_n 0, 1) := by decide +kernel
theorem dX4_lay_29 : decode cX4_lay 29 = .ok (.getfield 7, 3) := by decide +kernel
theorem dX4_lay_32 : decode cX4_lay 32 = .ok (.iload 5, 2) := by decide +kernel
theorem dX4_lay_34 : decode cX4_lay 34 = .ok (.iconst 2, 1) := by decide +kernel
theorem dX4_lay_35 : decode cX4_lay 35 = .ok (.iadd, 1) := by decide +kernel
theorem dX4_lay_36 : decode cX4_lay 36 = .ok (.iload 4, 2) := by decide +kernel
theorem dX4_lay_38 : decode cX4_lay 38 = .ok (.iastore, 1) := by decide +kernel
theorem dX4_lay_39 : decode cX4_lay 39 = .ok (.aload_n 0, 1) := by decide +kernel
theorem dX4_lay_40 : decode cX4_lay 40 = .ok (.getfield 7, 3) := by decide +kernel
theorem dX4_lay_43 : decode cX4_lay 43 = .ok (.iload 5, 2) := by decide +kernel
theorem dX4_lay_45 : decode cX4_lay 45 = .ok (.iconst 3, 1) := by decide +kernel
theorem dX4_lay_46 : decode cX4_lay 46 = .ok (.iadd, 1) := by decide +kernel
theorem dX4_lay_47 : decode cX4_lay 47 = .ok (.aload_n 0, 1) := by decide +kernel
theorem dX4_lay_48 : decode cX4_lay 48 = .ok (.getfield 7, 3) := by decide +kernel
theorem dX4_lay_51 : decode cX4_lay 51 = .ok (.iconst 5, 1) := by decide +kernel
theorem dX4_lay_52 : decode cX4_lay 52 = .ok (.iaload, 1) := by decide +kernel
theorem dX4_lay_53 : decode cX4_lay 53 = .ok (.invokestatic 73, 3) := by decide +kernel
theorem dX4_lay_56 : decode cX4_lay 56 = .ok (.iastore, 1) := by decide +kernel
theorem dX4_lay_57 : decode cX4_lay 57 = .ok (.return_, 1) := by decide +kernel
set_option maxRecDepth 20000 in
theorem ggX4_leave_X4_at : GoodIn wsX4_leave wsX4_at := goodIn_r _ [6, 1, 7, 8, 9, 10, 11, 12, 13, 14, 15, 16, 17, 18, 19, 20] (by decide +kernel) (by decide +kernel)
set_option maxRecDepth 20000 in
theorem gX4_leave_X4_at : GoodIn wsX4_leave (wsV RX4 58 RX4 yX4_at wsX4_at) := goodIn_app (goodIn_of _ (by decide +kernel)) ggX4_leave_X4_at
theorem dX4_leave_0 : decode cX4_leave 0 = .ok (.aload_n 0, 1) := by decide +kernel
theorem dX4_leave_1 : decode cX4_leave 1 = .ok (.getfield 7, 3) := by decide +kernel
theorem dX4_leave_4 : decode cX4_leave 4 = .ok (.sipush 204, 3) := by decide +kernel
theorem dX4_leave_7 : decode cX4_leave 7 = .ok (.bipush 48, 2) := by decide +kernel
theorem dX4_leave_9 : decode cX4_leave 9 = .ok (.aload_n 0, 1) := by decide +kernel
theorem dX4_leave_10 : decode cX4_leave 10 = .ok (.iload_n 1, 1) := by decide +kernel
theorem dX4_leave_11 : decode cX4_leave 11 = .ok (.iconst 3, 1) := by decide +kernel
theorem dX4_leave_12 : decode cX4_leave 12 = .ok (.invokevirtual 58, 3) := by decide +kernel
theorem dX4_leave_15 : decode cX4_leave 15 = .ok (.iconst 1, 1) := by decide +kernel
theorem dX4_leave_16 : decode cX4_leave 16 = .ok (.isub, 1) := by decide +kernel
theorem dX4_leave_17 : decode cX4_leave 17 = .ok (.imul, 1) := by decide +kernel
theorem dX4_leave_18 : decode cX4_leave 18 = .ok (.iadd, 1) := by decide +kernel
theorem dX4_leave_19 : decode cX4_leave 19 = .ok (.iload_n 1, 1) := by decide +kernel
theorem dX4_leave_20 : decode cX4_leave 20 = .ok (.iadd, 1) := by decide +kernel
theorem dX4_leave_21 : decode cX4_leave 21 = .ok (.aload_n 0, 1) := by decide +kernel
theorem dX4_leave_22 : decode cX4_leave 22 = .ok (.getfield 7, 3) := by decide +kernel
theorem dX4_leave_25 : decode cX4_leave 25 = .ok (.iconst 5, 1) := by decide +kernel
theorem dX4_leave_26 : decode cX4_leave 26 = .ok (.iaload, 1) := by decide +kernel
theorem dX4_leave_27 : decode cX4_leave 27 = .ok (.iastore, 1) := by decide +kernel
theorem dX4_leave_28 : decode cX4_leave 28 = .ok (.aload_n 0, 1) := by decide +kernel
theorem dX4_leave_29 : decode cX4_leave 29 = .ok (.getfield 7, 3) := by decide +kernel
theorem dX4_leave_32 : decode cX4_leave 32 = .ok (.bipush 12, 2) := by decide +kernel
theorem dX4_leave_34 : decode cX4_leave 34 = .ok (.iconst 4, 1) := by decide +kernel
theorem dX4_leave_35 : decode cX4_leave 35 = .ok (.iload_n 1, 1) := by decide +kernel
theorem dX4_leave_36 : decode cX4_leave 36 = .ok (.imul, 1) := by decide +kernel
theorem dX4_leave_37 : decode cX4_leave 37 = .ok (.iadd, 1) := by decide +kernel
theorem dX4_leave_38 : decode cX4_leave 38 = .ok (.iconst 0, 1) := by decide +kernel
theorem dX4_leave_39 : decode cX4_leave 39 = .ok (.iastore, 1) := by decide +kernel
theorem dX4_leave_40 : decode cX4_leave 40 = .ok (.return_, 1) := by decide +kernel
set_option maxRecDepth 20000 in
theorem ggX4_isSender_X4_in : GoodIn wsX4_isSender wsX4_in := goodIn_r _ [4] (by decide +kernel) (by decide +kernel)
set_option maxRecDepth 20000 in
theorem gX4_isSender_X4_in : GoodIn wsX4_isSender (va_wsS RX4 50 yX4_in wsX4_in) := goodIn_app (goodIn_of _ (by decide +kernel)) ggX4_isSender_X4_in
theorem dX4_isSender_0 : decode cX4_isSender 0 = .ok (.iload_n 0, 1) := by decide +kernel
theorem dX4_isSender_1 : decode cX4_isSender 1 = .ok (.iconst 0, 1) := by decide +kernel
theorem dX4_isSender_2 : decode cX4_isSender 2 = .ok (.bipush 9, 2) := by decide +kernel
theorem dX4_isSender_4 : decode cX4_isSender 4 = .ok (.invokestatic 50, 3) := by decide +kernel
theorem dX4_isSender_7 : decode cX4_isSender 7 = .ok (.ireturn, 1) := by decide +kernel
theorem dX4_ofSender_0 : decode cX4_ofSender 0 = .ok (.aload_n 0, 1) := by decide +kernel
theorem dX4_ofSender_1 : decode cX4_ofSender 1 = .ok (.getfield 7, 3) := by decide +kernel
theorem dX4_ofSender_4 : decode cX4_ofSender 4 = .ok (.sipush 540, 3) := by decide +kernel
theorem dX4_ofSender_7 : decode cX4_ofSender 7 = .ok (.iconst 4, 1) := by decide +kernel
theorem dX4_ofSender_8 : decode cX4_ofSender 8 = .ok (.iload_n 1, 1) := by decide +kernel
theorem dX4_ofSender_9 : decode cX4_ofSender 9 = .ok (.imul, 1) := by decide +kernel
theorem dX4_ofSender_10 : decode cX4_ofSender 10 = .ok (.iadd, 1) := by decide +kernel
theorem dX4_ofSender_11 : decode cX4_ofSender 11 = .ok (.iload_n 2, 1) := by decide +kernel
theorem dX4_ofSender_12 : decode cX4_ofSender 12 = .ok (.iadd, 1) := by decide +kernel
theorem dX4_ofSender_13 : decode cX4_ofSender 13 = .ok (.iaload, 1) := by decide +kernel
theorem dX4_ofSender_14 : decode cX4_ofSender 14 = .ok (.ireturn, 1) := by decide +kernel
theorem dX4_count_0 : decode cX4_count 0 = .ok (.aload_n 0, 1) := by decide +kernel
theorem dX4_count_1 : decode cX4_count 1 = .ok (.getfield 7, 3) := by decide +kernel
theorem dX4_count_4 : decode cX4_count 4 = .ok (.sipush 540, 3) := by decide +kernel
theorem dX4_count_7 : decode cX4_count 7 = .ok (.iconst 4, 1) := by decide +kernel
theorem dX4_count_8 : decode cX4_count 8 = .ok (.iload_n 1, 1) := by decide +kernel
theorem dX4_count_9 : decode cX4_count 9 = .ok (.imul, 1) := by decide +kernel
theorem dX4_count_10 : decode cX4_count 10 = .ok (.iadd, 1) := by decide +kernel
theorem dX4_count_11 : decode cX4_count 11 = .ok (.iload_n 2, 1) := by decide +kernel
theorem dX4_count_12 : decode cX4_count 12 = .ok (.iadd, 1) := by decide +kernel
theorem dX4_count_13 : decode cX4_count 13 = .ok (.dup2, 1) := by decide +kernel
theorem dX4_count_14 : decode cX4_count 14 = .ok (.iaload, 1) := by decide +kernel
theorem dX4_count_15 : decode cX4_count 15 = .ok (.iload_n 3, 1) := by decide +kernel
theorem dX4_count_16 : decode cX4_count 16 = .ok (.iadd, 1) := by decide +kernel
theorem dX4_count_17 : decode cX4_count 17 = .ok (.iastore, 1) := by decide +kernel
theorem dX4_count_18 : decode cX4_count 18 = .ok (.return_, 1) := by decide +kernel
set_option maxRecDepth 20000 in
theorem ggX4_whyNotCome_X4_isSender : GoodIn wsX4_whyNotCome wsX4_isSender := goodIn_r _ [4, 5, 6, 3, 7] (by decide +kernel) (by decide +kernel)
set_option maxRecDepth 20000 in
theorem gX4_whyNotCome_X4_isSender : GoodIn wsX4_whyNotCome (va_wsS RX4 86 yX4_isSender wsX4_isSender) := goodIn_app (goodIn_of _ (by decide +kernel)) ggX4_whyNotCome_X4_isSender
set_option maxRecDepth 20000 in
theorem ggX4_whyNotCome_X4_in : GoodIn wsX4_whyNotCome wsX4_in := goodIn_r _ [7] (by decide +kernel) (by decide +kernel)
set_option maxRecDepth 20000 in
theorem gX4_whyNotCome_X4_in : GoodIn wsX4_whyNotCome (va_wsS RX4 50 yX4_in wsX4_in) := goodIn_app (goodIn_of _ (by decide +kernel)) ggX4_whyNotCome_X4_in
set_option maxRecDepth 20000 in
theorem ggX4_whyNotCome_X4_firstPlace : GoodIn wsX4_whyNotCome wsX4_firstPlace := goodIn_r _ [11, 12, 13, 14, 3, 15, 16, 17, 18, 19, 20, 21, 22, 23, 24, 25, 26, 27, 28, 29, 30, 31, 42, 43, 44, 45, 46, 47, 48, 49, 50, 51, 52, 53, 54, 55] (by decide +kernel) (by decide +kernel)
set_option maxRecDepth 20000 in
theorem gX4_whyNotCome_X4_firstPlace : GoodIn wsX4_whyNotCome (wsV RX4 89 RX4 yX4_firstPlace wsX4_firstPlace) := goodIn_app (goodIn_of _ (by decide +kernel)) ggX4_whyNotCome_X4_firstPlace
set_option maxRecDepth 20000 in
theorem ggX4_whyNotCome_X4_refusePlace : GoodIn wsX4_whyNotCome wsX4_refusePlace := goodIn_r _ [35, 12, 13, 14, 3, 15, 16, 17, 18, 19, 20, 36, 37, 38, 39, 40, 41, 42, 43, 44, 45, 46, 47, 48, 49, 50, 51, 52, 53, 54, 55] (by decide +kernel) (by decide +kernel)
set_option maxRecDepth 20000 in
theorem gX4_whyNotCome_X4_refusePlace : GoodIn wsX4_whyNotCome (wsV RX4 92 RX4 yX4_refusePlace wsX4_refusePlace) := goodIn_app (goodIn_of _ (by decide +kernel)) ggX4_whyNotCome_X4_refusePlace
theorem dX4_whyNotCome_0 : decode cX4_whyNotCome 0 = .ok (.iload_n 1, 1) := by decide +kernel
theorem dX4_whyNotCome_1 : decode cX4_whyNotCome 1 = .ok (.invokestatic 86, 3) := by decide +kernel
theorem dX4_whyNotCome_4 : decode cX4_whyNotCome 4 = .ok (.ifCond .ne 5, 3) := by decide +kernel
theorem dX4_whyNotCome_7 : decode cX4_whyNotCome 7 = .ok (.iconst (-1), 1) := by decide +kernel
theorem dX4_whyNotCome_8 : decode cX4_whyNotCome 8 = .ok (.ireturn, 1) := by decide +kernel
theorem dX4_whyNotCome_9 : decode cX4_whyNotCome 9 = .ok (.iload_n 2, 1) := by decide +kernel
theorem dX4_whyNotCome_10 : decode cX4_whyNotCome 10 = .ok (.iconst 0, 1) := by decide +kernel
theorem dX4_whyNotCome_11 : decode cX4_whyNotCome 11 = .ok (.iconst 2, 1) := by decide +kernel
theorem dX4_whyNotCome_12 : decode cX4_whyNotCome 12 = .ok (.invokestatic 50, 3) := by decide +kernel
theorem dX4_whyNotCome_15 : decode cX4_whyNotCome 15 = .ok (.ifCond .ne 6, 3) := by decide +kernel
theorem dX4_whyNotCome_18 : decode cX4_whyNotCome 18 = .ok (.bipush (-2), 2) := by decide +kernel
theorem dX4_whyNotCome_20 : decode cX4_whyNotCome 20 = .ok (.ireturn, 1) := by decide +kernel
theorem dX4_whyNotCome_21 : decode cX4_whyNotCome 21 = .ok (.aload_n 0, 1) := by decide +kernel
theorem dX4_whyNotCome_22 : decode cX4_whyNotCome 22 = .ok (.iconst 2, 1) := by decide +kernel
theorem dX4_whyNotCome_23 : decode cX4_whyNotCome 23 = .ok (.iload_n 2, 1) := by decide +kernel
theorem dX4_whyNotCome_24 : decode cX4_whyNotCome 24 = .ok (.imul, 1) := by decide +kernel
theorem dX4_whyNotCome_25 : decode cX4_whyNotCome 25 = .ok (.iconst 5, 1) := by decide +kernel
theorem dX4_whyNotCome_26 : decode cX4_whyNotCome 26 = .ok (.invokevirtual 89, 3) := by decide +kernel
theorem dX4_whyNotCome_29 : decode cX4_whyNotCome 29 = .ok (.bipush (-6), 2) := by decide +kernel
theorem dX4_whyNotCome_31 : decode cX4_whyNotCome 31 = .ok (.if_icmp .ne 14, 3) := by decide +kernel
theorem dX4_whyNotCome_34 : decode cX4_whyNotCome 34 = .ok (.aload_n 0, 1) := by decide +kernel
theorem dX4_whyNotCome_35 : decode cX4_whyNotCome 35 = .ok (.iconst 2, 1) := by decide +kernel
theorem dX4_whyNotCome_36 : decode cX4_whyNotCome 36 = .ok (.iload_n 2, 1) := by decide +kernel
theorem dX4_whyNotCome_37 : decode cX4_whyNotCome 37 = .ok (.imul, 1) := by decide +kernel
theorem dX4_whyNotCome_38 : decode cX4_whyNotCome 38 = .ok (.iconst 5, 1) := by decide +kernel
theorem dX4_whyNotCome_39 : decode cX4_whyNotCome 39 = .ok (.invokevirtual 92, 3) := by decide +kernel
theorem dX4_whyNotCome_42 : decode cX4_whyNotCome 42 = .ok (.goto 4, 3) := by decide +kernel
theorem dX4_whyNotCome_45 : decode cX4_whyNotCome 45 = .ok (.iconst 0, 1) := by decide +kernel
theorem dX4_whyNotCome_46 : decode cX4_whyNotCome 46 = .ok (.ireturn, 1) := by decide +kernel
set_option maxRecDepth 20000 in
theorem ggX4_comes_X4_firstPlace : GoodIn wsX4_comes wsX4_firstPlace := goodIn_r _ [6, 7, 8, 9, 5, 10, 11, 12, 13, 14, 1, 15, 16, 17, 18, 19, 20, 21, 22, 23, 24, 25, 37, 38, 39, 40, 41, 42, 43, 44, 45, 46, 47, 48, 49, 50] (by decide +kernel) (by decide +kernel)
set_option maxRecDepth 20000 in
theorem gX4_comes_X4_firstPlace : GoodIn wsX4_comes (wsV RX4 89 RX4 yX4_firstPlace wsX4_firstPlace) := goodIn_app (goodIn_of _ (by decide +kernel)) ggX4_comes_X4_firstPlace
set_option maxRecDepth 20000 in
theorem ggX4_comes_X4_lay : GoodIn wsX4_comes wsX4_lay := goodIn_r _ [29, 1, 19, 20, 5, 21, 37, 38, 39, 40, 41, 42, 43, 44, 45, 46, 47, 48, 49, 50] (by decide +kernel) (by decide +kernel)
set_option maxRecDepth 20000 in
theorem gX4_comes_X4_lay : GoodIn wsX4_comes (wsV RX4 95 RX4 yX4_lay wsX4_lay) := goodIn_app (goodIn_of _ (by decide +kernel)) ggX4_comes_X4_lay
set_option maxRecDepth 20000 in
theorem ggX4_comes_X4_codeOn : GoodIn wsX4_comes wsX4_codeOn := goodIn_r _ [33, 11, 12, 13, 5, 14, 1, 34, 35, 36, 37, 38, 39, 40, 41, 42, 43, 44, 45, 46, 47, 48, 49, 50] (by decide +kernel) (by decide +kernel)
set_option maxRecDepth 20000 in
theorem gX4_comes_X4_codeOn : GoodIn wsX4_comes (wsV RX4 99 RX4 yX4_codeOn wsX4_codeOn) := goodIn_app (goodIn_of _ (by decide +kernel)) ggX4_comes_X4_codeOn
theorem dX4_comes_0 : decode cX4_comes 0 = .ok (.aload_n 0, 1) := by decide +kernel
theorem dX4_comes_1 : decode cX4_comes 1 = .ok (.iconst 2, 1) := by decide +kernel
theorem dX4_comes_2 : decode cX4_comes 2 = .ok (.iload_n 2, 1) := by decide +kernel
theorem dX4_comes_3 : decode cX4_comes 3 = .ok (.imul, 1) := by decide +kernel
theorem dX4_comes_4 : decode cX4_comes 4 = .ok (.iconst 5, 1) := by decide +kernel
theorem dX4_comes_5 : decode cX4_comes 5 = .ok (.invokevirtual 89, 3) := by decide +kernel
theorem dX4_comes_8 : decode cX4_comes 8 = .ok (.istore_n 3, 1) := by decide +kernel
theorem dX4_comes_9 : decode cX4_comes 9 = .ok (.aload_n 0, 1) := by decide +kernel
theorem dX4_comes_10 : decode cX4_comes 10 = .ok (.iload_n 3, 1) := by decide +kernel
theorem dX4_comes_11 : decode cX4_comes 11 = .ok (.iload_n 1, 1) := by decide +kernel
theorem dX4_comes_12 : decode cX4_comes 12 = .ok (.iload_n 2, 1) := by decide +kernel
theorem dX4_comes_13 : decode cX4_comes 13 = .ok (.aload_n 0, 1) := by decide +kernel
theorem dX4_comes_14 : decode cX4_comes 14 = .ok (.getfield 7, 3) := by decide +kernel
theorem dX4_comes_17 : decode cX4_comes 17 = .ok (.iconst 5, 1) := by decide +kernel
theorem dX4_comes_18 : decode cX4_comes 18 = .ok (.iaload, 1) := by decide +kernel
theorem dX4_comes_19 : decode cX4_comes 19 = .ok (.invokevirtual 95, 3) := by decide +kernel
theorem dX4_comes_22 : decode cX4_comes 22 = .ok (.aload_n 0, 1) := by decide +kernel
theorem dX4_comes_23 : decode cX4_comes 23 = .ok (.getfield 7, 3) := by decide +kernel
theorem dX4_comes_26 : decode cX4_comes 26 = .ok (.bipush 7, 2) := by decide +kernel
theorem dX4_comes_28 : decode cX4_comes 28 = .ok (.dup2, 1) := by decide +kernel
theorem dX4_comes_29 : decode cX4_comes 29 = .ok (.iaload, 1) := by decide +kernel
theorem dX4_comes_30 : decode cX4_comes 30 = .ok (.iconst 1, 1) := by decide +kernel
theorem dX4_comes_31 : decode cX4_comes 31 = .ok (.iadd, 1) := by decide +kernel
theorem dX4_comes_32 : decode cX4_comes 32 = .ok (.iastore, 1) := by decide +kernel
theorem dX4_comes_33 : decode cX4_comes 33 = .ok (.aload_n 0, 1) := by decide +kernel
theorem dX4_comes_34 : decode cX4_comes 34 = .ok (.iload_n 3, 1) := by decide +kernel
theorem dX4_comes_35 : decode cX4_comes 35 = .ok (.invokevirtual 99, 3) := by decide +kernel
theorem dX4_comes_38 : decode cX4_comes 38 = .ok (.ireturn, 1) := by decide +kernel
set_option maxRecDepth 20000 in
theorem ggX4_come_X4_whyNotCome : GoodIn wsX4_come wsX4_whyNotCome := goodIn_r _ [5, 6, 7, 4, 8, 9, 10, 11, 12, 13, 14, 15, 16, 17, 18, 19, 20, 21, 22, 23, 24, 25, 26, 27, 28, 29, 30, 31, 32, 33, 34, 35, 36, 37, 38, 39, 40, 41, 42, 43, 44, 45, 67, 68, 69, 70, 71, 72, 73, 74, 75, 76, 77, 78, 79, 80] (by decide +kernel) (by decide +kernel)
set_option maxRecDepth 20000 in
theorem gX4_come_X4_whyNotCome : GoodIn wsX4_come (wsV RX4 102 RX4 yX4_whyNotCome wsX4_whyNotCome) := goodIn_app (goodIn_of _ (by decide +kernel)) ggX4_come_X4_whyNotCome
set_option maxRecDepth 20000 in
theorem ggX4_come_X4_record : GoodIn wsX4_come wsX4_record := goodIn_r _ [49, 50, 51, 24, 67, 68, 69, 70, 71, 72, 73, 74, 75, 76, 77, 78, 79, 80] (by decide +kernel) (by decide +kernel)
set_option maxRecDepth 20000 in
theorem gX4_come_X4_record : GoodIn wsX4_come (wsV RX4 47 RX4 yX4_record wsX4_record) := goodIn_app (goodIn_of _ (by decide +kernel)) ggX4_come_X4_record
set_option maxRecDepth 20000 in
theorem ggX4_come_X4_comes : GoodIn wsX4_come wsX4_comes := goodIn_r _ [55, 24, 12, 13, 14, 4, 15, 16, 17, 18, 19, 20, 21, 22, 23, 25, 26, 27, 28, 29, 30, 31, 32, 33, 34, 35, 56, 57, 58, 59, 60, 61, 62, 63, 64, 65, 66, 67, 68, 69, 70, 71, 72, 73, 74, 75, 76, 77, 78, 79, 80] (by decide +kernel) (by decide +kernel)
set_option maxRecDepth 20000 in
theorem gX4_come_X4_comes : GoodIn wsX4_come (wsV RX4 105 RX4 yX4_comes wsX4_comes) := goodIn_app (goodIn_of _ (by decide +kernel)) ggX4_come_X4_comes
theorem dX4_come_0 : decode cX4_come 0 = .ok (.aload_n 0, 1) := by decide +kernel
theorem dX4_come_1 : decode cX4_come 1 = .ok (.iload_n 1, 1) := by decide +kernel
theorem dX4_come_2 : decode cX4_come 2 = .ok (.iload_n 2, 1) := by decide +kernel
theorem dX4_come_3 : decode cX4_come 3 = .ok (.invokevirtual 102, 3) := by decide +kernel
theorem dX4_come_6 : decode cX4_come 6 = .ok (.istore_n 3, 1) := by decide +kernel
theorem dX4_come_7 : decode cX4_come 7 = .ok (.iload_n 3, 1) := by decide +kernel
theorem dX4_come_8 : decode cX4_come 8 = .ok (.ifCond .ge 5, 3) := by decide +kernel
theorem dX4_come_11 : decode cX4_come 11 = .ok (.iload_n 3, 1) := by decide +kernel
theorem dX4_come_12 : decode cX4_come 12 = .ok (.ireturn, 1) := by decide +kernel
theorem dX4_come_13 : decode cX4_come 13 = .ok (.aload_n 0, 1) := by decide +kernel
theorem dX4_come_14 : decode cX4_come 14 = .ok (.invokevirtual 47, 3) := by decide +kernel
theorem dX4_come_17 : decode cX4_come 17 = .ok (.aload_n 0, 1) := by decide +kernel
theorem dX4_come_18 : decode cX4_come 18 = .ok (.iload_n 1, 1) := by decide +kernel
theorem dX4_come_19 : decode cX4_come 19 = .ok (.iload_n 2, 1) := by decide +kernel
theorem dX4_come_20 : decode cX4_come 20 = .ok (.invokevirtual 105, 3) := by decide +kernel
theorem dX4_come_23 : decode cX4_come 23 = .ok (.ireturn, 1) := by decide +kernel
set_option maxRecDepth 20000 in
theorem ggX4_feeOn_X4_at : GoodIn wsX4_feeOn wsX4_at := goodIn_r _ [6, 1, 7, 8, 9, 10, 11, 12, 13, 14, 15, 16, 17, 18, 19, 20] (by decide +kernel) (by decide +kernel)
set_option maxRecDepth 20000 in
theorem gX4_feeOn_X4_at : GoodIn wsX4_feeOn (wsV RX4 58 RX4 yX4_at wsX4_at) := goodIn_app (goodIn_of _ (by decide +kernel)) ggX4_feeOn_X4_at
theorem dX4_feeOn_0 : decode cX4_feeOn 0 = .ok (.iload_n 2, 1) := by decide +kernel
theorem dX4_feeOn_1 : decode cX4_feeOn 1 = .ok (.aload_n 0, 1) := by decide +kernel
theorem dX4_feeOn_2 : decode cX4_feeOn 2 = .ok (.iload_n 1, 1) := by decide +kernel
theorem dX4_feeOn_3 : decode cX4_feeOn 3 = .ok (.iconst 2, 1) := by decide +kernel
theorem dX4_feeOn_4 : decode cX4_feeOn 4 = .ok (.invokevirtual 58, 3) := by decide +kernel
theorem dX4_feeOn_7 : decode cX4_feeOn 7 = .ok (.isub, 1) := by decide +kernel
theorem dX4_feeOn_8 : decode cX4_feeOn 8 = .ok (.aload_n 0, 1) := by decide +kernel
theorem dX4_feeOn_9 : decode cX4_feeOn 9 = .ok (.getfield 7, 3) := by decide +kernel
theorem dX4_feeOn_12 : decode cX4_feeOn 12 = .ok (.iconst 1, 1) := by decide +kernel
theorem dX4_feeOn_13 : decode cX4_feeOn 13 = .ok (.iaload, 1) := by decide +kernel
theorem dX4_feeOn_14 : decode cX4_feeOn 14 = .ok (.isub, 1) := by decide +kernel
theorem dX4_feeOn_15 : decode cX4_feeOn 15 = .ok (.istore_n 3, 1) := by decide +kernel
theorem dX4_feeOn_16 : decode cX4_feeOn 16 = .ok (.iload_n 3, 1) := by decide +kernel
theorem dX4_feeOn_17 : decode cX4_feeOn 17 = .ok (.ifCond .le 23, 3) := by decide +kernel
theorem dX4_feeOn_20 : decode cX4_feeOn 20 = .ok (.aload_n 0, 1) := by decide +kernel
theorem dX4_feeOn_21 : decode cX4_feeOn 21 = .ok (.iload_n 1, 1) := by decide +kernel
theorem dX4_feeOn_22 : decode cX4_feeOn 22 = .ok (.iconst 1, 1) := by decide +kernel
theorem dX4_feeOn_23 : decode cX4_feeOn 23 = .ok (.invokevirtual 58, 3) := by decide +kernel
theorem dX4_feeOn_26 : decode cX4_feeOn 26 = .ok (.iconst 1, 1) := by decide +kernel
theorem dX4_feeOn_27 : decode cX4_feeOn 27 = .ok (.iadd, 1) := by decide +kernel
theorem dX4_feeOn_28 : decode cX4_feeOn 28 = .ok (.aload_n 0, 1) := by decide +kernel
theorem dX4_feeOn_29 : decode cX4_feeOn 29 = .ok (.getfield 7, 3) := by decide +kernel
theorem dX4_feeOn_32 : decode cX4_feeOn 32 = .ok (.iconst 2, 1) := by decide +kernel
theorem dX4_feeOn_33 : decode cX4_feeOn 33 = .ok (.iaload, 1) := by decide +kernel
theorem dX4_feeOn_34 : decode cX4_feeOn 34 = .ok (.imul, 1) := by decide +kernel
theorem dX4_feeOn_35 : decode cX4_feeOn 35 = .ok (.iload_n 3, 1) := by decide +kernel
theorem dX4_feeOn_36 : decode cX4_feeOn 36 = .ok (.imul, 1) := by decide +kernel
theorem dX4_feeOn_37 : decode cX4_feeOn 37 = .ok (.goto 4, 3) := by decide +kernel
theorem dX4_feeOn_40 : decode cX4_feeOn 40 = .ok (.iconst 0, 1) := by decide +kernel
theorem dX4_feeOn_41 : decode cX4_feeOn 41 = .ok (.ireturn, 1) := by decide +kernel
theorem dX4_isLocked_0 : decode cX4_isLocked 0 = .ok (.aload_n 0, 1) := by decide +kernel
theorem dX4_isLocked_1 : decode cX4_isLocked 1 = .ok (.getfield 7, 3) := by decide +kernel
theorem dX4_isLocked_4 : decode cX4_isLocked 4 = .ok (.bipush 6, 2) := by decide +kernel
theorem dX4_isLocked_6 : decode cX4_isLocked 6 = .ok (.iaload, 1) := by decide +kernel
theorem dX4_isLocked_7 : decode cX4_isLocked 7 = .ok (.iconst 3, 1) := by decide +kernel
theorem dX4_isLocked_8 : decode cX4_isLocked 8 = .ok (.if_icmp .ne 7, 3) := by decide +kernel
theorem dX4_isLocked_11 : decode cX4_isLocked 11 = .ok (.iconst 1, 1) := by decide +kernel
theorem dX4_isLocked_12 : decode cX4_isLocked 12 = .ok (.goto 4, 3) := by decide +kernel
theorem dX4_isLocked_15 : decode cX4_isLocked 15 = .ok (.iconst 0, 1) := by decide +kernel
theorem dX4_isLocked_16 : decode cX4_isLocked 16 = .ok (.ireturn, 1) := by decide +kernel
set_option maxRecDepth 20000 in
theorem ggX4_whyNotFetch_X4_in : GoodIn wsX4_whyNotFetch wsX4_in := goodIn_r _ [4] (by decide +kernel) (by decide +kernel)
set_option maxRecDepth 20000 in
theorem gX4_whyNotFetch_X4_in : GoodIn wsX4_whyNotFetch (va_wsS RX4 50 yX4_in wsX4_in) := goodIn_app (goodIn_of _ (by decide +kernel)) ggX4_whyNotFetch_X4_in
set_option maxRecDepth 20000 in
theorem ggX4_whyNotFetch_X4_isLocked : GoodIn wsX4_whyNotFetch wsX4_isLocked := goodIn_r _ [8, 9, 16, 17, 18, 19, 20, 21, 22, 23, 24, 25, 26, 27, 28, 29] (by decide +kernel) (by decide +kernel)
set_option maxRecDepth 20000 in
theorem gX4_whyNotFetch_X4_isLocked : GoodIn wsX4_whyNotFetch (wsV RX4 108 RX4 yX4_isLocked wsX4_isLocked) := goodIn_app (goodIn_of _ (by decide +kernel)) ggX4_whyNotFetch_X4_isLocked
set_option maxRecDepth 20000 in
theorem ggX4_whyNotFetch_X4_refuseBy : GoodIn wsX4_whyNotFetch wsX4_refuseBy := goodIn_r _ [13, 14, 15, 16, 17, 18, 19, 20, 21, 22, 23, 24, 25, 26, 27, 28, 29] (by decide +kernel) (by decide +kernel)
set_option maxRecDepth 20000 in
theorem gX4_whyNotFetch_X4_refuseBy : GoodIn wsX4_whyNotFetch (wsV RX4 82 RX4 yX4_refuseBy wsX4_refuseBy) := goodIn_app (goodIn_of _ (by decide +kernel)) ggX4_whyNotFetch_X4_refuseBy
theorem dX4_whyNotFetch_0 : decode cX4_whyNotFetch 0 = .ok (.iload_n 1, 1) := by decide +kernel
theorem dX4_whyNotFetch_1 : decode cX4_whyNotFetch 1 = .ok (.iconst 0, 1) := by decide +kernel
theorem dX4_whyNotFetch_2 : decode cX4_whyNotFetch 2 = .ok (.sipush 9999, 3) := by decide +kernel
theorem dX4_whyNotFetch_5 : decode cX4_whyNotFetch 5 = .ok (.invokestatic 50, 3) := by decide +kernel
theorem dX4_whyNotFetch_8 : decode cX4_whyNotFetch 8 = .ok (.ifCond .ne 6, 3) := by decide +kernel
theorem dX4_whyNotFetch_11 : decode cX4_whyNotFetch 11 = .ok (.bipush (-2), 2) := by decide +kernel
theorem dX4_whyNotFetch_13 : decode cX4_whyNotFetch 13 = .ok (.ireturn, 1) := by decide +kernel
theorem dX4_whyNotFetch_14 : decode cX4_whyNotFetch 14 = .ok (.aload_n 0, 1) := by decide +kernel
theorem dX4_whyNotFetch_15 : decode cX4_whyNotFetch 15 = .ok (.invokevirtual 108, 3) := by decide +kernel
theorem dX4_whyNotFetch_18 : decode cX4_whyNotFetch 18 = .ok (.ifCond .eq 15, 3) := by decide +kernel
theorem dX4_whyNotFetch_21 : decode cX4_whyNotFetch 21 = .ok (.aload_n 0, 1) := by decide +kernel
theorem dX4_whyNotFetch_22 : decode cX4_whyNotFetch 22 = .ok (.iconst 2, 1) := by decide +kernel
theorem dX4_whyNotFetch_23 : decode cX4_whyNotFetch 23 = .ok (.bipush (-6), 2) := by decide +kernel
theorem dX4_whyNotFetch_25 : decode cX4_whyNotFetch 25 = .ok (.bipush (-3), 2) := by decide +kernel
theorem dX4_whyNotFetch_27 : decode cX4_whyNotFetch 27 = .ok (.invokevirtual 82, 3) := by decide +kernel
theorem dX4_whyNotFetch_30 : decode cX4_whyNotFetch 30 = .ok (.goto 4, 3) := by decide +kernel
theorem dX4_whyNotFetch_33 : decode cX4_whyNotFetch 33 = .ok (.iconst 0, 1) := by decide +kernel
theorem dX4_whyNotFetch_34 : decode cX4_whyNotFetch 34 = .ok (.ireturn, 1) := by decide +kernel
set_option maxRecDepth 20000 in
theorem ggX4_fetches_X4_placeBy : GoodIn wsX4_fetches wsX4_placeBy := goodIn_r _ [6, 7, 8, 5, 9, 10, 11, 12, 13, 14, 15, 16, 17, 18, 19, 20, 21, 22, 23, 1, 36, 37, 38, 39, 40, 41, 42, 43, 44, 45, 46, 47, 48, 49] (by decide +kernel) (by decide +kernel)
set_option maxRecDepth 20000 in
theorem gX4_fetches_X4_placeBy : GoodIn wsX4_fetches (wsV RX4 112 RX4 yX4_placeBy wsX4_placeBy) := goodIn_app (goodIn_of _ (by decide +kernel)) ggX4_fetches_X4_placeBy
set_option maxRecDepth 20000 in
theorem ggX4_fetches_X4_feeOn : GoodIn wsX4_fetches wsX4_feeOn := goodIn_r _ [27, 1, 20, 21, 22, 5, 23, 36, 37, 38, 39, 40, 41, 42, 43, 44, 45, 46, 47, 48, 49] (by decide +kernel) (by decide +kernel)
set_option maxRecDepth 20000 in
theorem gX4_fetches_X4_feeOn : GoodIn wsX4_fetches (wsV RX4 115 RX4 yX4_feeOn wsX4_feeOn) := goodIn_app (goodIn_of _ (by decide +kernel)) ggX4_fetches_X4_feeOn
set_option maxRecDepth 20000 in
theorem ggX4_fetches_X4_at : GoodIn wsX4_fetches wsX4_at := goodIn_r _ [23, 1, 36, 37, 38, 39, 40, 41, 42, 43, 44, 45, 46, 47, 48, 49] (by decide +kernel) (by decide +kernel)
set_option maxRecDepth 20000 in
theorem gX4_fetches_X4_at : GoodIn wsX4_fetches (wsV RX4 58 RX4 yX4_at wsX4_at) := goodIn_app (goodIn_of _ (by decide +kernel)) ggX4_fetches_X4_at
set_option maxRecDepth 20000 in
theorem ggX4_fetches_X4_count : GoodIn wsX4_fetches wsX4_count := goodIn_r _ [31, 1, 36, 37, 38, 39, 40, 41, 42, 43, 44, 45, 46, 47, 48, 49] (by decide +kernel) (by decide +kernel)
set_option maxRecDepth 20000 in
theorem gX4_fetches_X4_count : GoodIn wsX4_fetches (wsV RX4 118 RX4 yX4_count wsX4_count) := goodIn_app (goodIn_of _ (by decide +kernel)) ggX4_fetches_X4_count
set_option maxRecDepth 20000 in
theorem ggX4_fetches_X4_leave : GoodIn wsX4_fetches wsX4_leave := goodIn_r _ [35, 1, 20, 21, 22, 5, 23, 36, 37, 38, 39, 40, 41, 42, 43, 44, 45, 46, 47, 48, 49] (by decide +kernel) (by decide +kernel)
set_option maxRecDepth 20000 in
theorem gX4_fetches_X4_leave : GoodIn wsX4_fetches (wsV RX4 122 RX4 yX4_leave wsX4_leave) := goodIn_app (goodIn_of _ (by decide +kernel)) ggX4_fetches_X4_leave
theorem dX4_fetches_0 : decode cX4_fetches 0 = .ok (.aload_n 0, 1) := by decide +kernel
theorem dX4_fetches_1 : decode cX4_fetches 1 = .ok (.iload_n 1, 1) := by decide +kernel
theorem dX4_fetches_2 : decode cX4_fetches 2 = .ok (.invokevirtual 112, 3) := by decide +kernel
theorem dX4_fetches_5 : decode cX4_fetches 5 = .ok (.istore_n 2, 1) := by decide +kernel
theorem dX4_fetches_6 : decode cX4_fetches 6 = .ok (.iload_n 2, 1) := by decide +kernel
theorem dX4_fetches_7 : decode cX4_fetches 7 = .ok (.bipush (-6), 2) := by decide +kernel
theorem dX4_fetches_9 : decode cX4_fetches 9 = .ok (.if_icmp .ne 17, 3) := by decide +kernel
theorem dX4_fetches_12 : decode cX4_fetches 12 = .ok (.aload_n 0, 1) := by decide +kernel
theorem dX4_fetches_13 : decode cX4_fetches 13 = .ok (.getfield 7, 3) := by decide +kernel
theorem dX4_fetches_16 : decode cX4_fetches 16 = .ok (.bipush 6, 2) := by decide +kernel
theorem dX4_fetches_18 : decode cX4_fetches 18 = .ok (.dup2, 1) := by decide +kernel
theorem dX4_fetches_19 : decode cX4_fetches 19 = .ok (.iaload, 1) := by decide +kernel
theorem dX4_fetches_20 : decode cX4_fetches 20 = .ok (.iconst 1, 1) := by decide +kernel
theorem dX4_fetches_21 : decode cX4_fetches 21 = .ok (.iadd, 1) := by decide +kernel
theorem dX4_fetches_22 : decode cX4_fetches 22 = .ok (.iastore, 1) := by decide +kernel
theorem dX4_fetches_23 : decode cX4_fetches 23 = .ok (.bipush (-7), 2) := by decide +kernel
theorem dX4_fetches_25 : decode cX4_fetches 25 = .ok (.ireturn, 1) := by decide +kernel
theorem dX4_fetches_26 : decode cX4_fetches 26 = .ok (.aload_n 0, 1) := by decide +kernel
theorem dX4_fetches_27 : decode cX4_fetches 27 = .ok (.iload_n 2, 1) := by decide +kernel
theorem dX4_fetches_28 : decode cX4_fetches 28 = .ok (.aload_n 0, 1) := by decide +kernel
theorem dX4_fetches_29 : decode cX4_fetches 29 = .ok (.getfield 7, 3) := by decide +kernel
theorem dX4_fetches_32 : decode cX4_fetches 32 = .ok (.iconst 5, 1) := by decide +kernel
theorem dX4_fetches_33 : decode cX4_fetches 33 = .ok (.iaload, 1) := by decide +kernel
theorem dX4_fetches_34 : decode cX4_fetches 34 = .ok (.invokevirtual 115, 3) := by decide +kernel
theorem dX4_fetches_37 : decode cX4_fetches 37 = .ok (.istore_n 3, 1) := by decide +kernel
theorem dX4_fetches_38 : decode cX4_fetches 38 = .ok (.aload_n 0, 1) := by decide +kernel
theorem dX4_fetches_39 : decode cX4_fetches 39 = .ok (.getfield 7, 3) := by decide +kernel
theorem dX4_fetches_42 : decode cX4_fetches 42 = .ok (.bipush 10, 2) := by decide +kernel
theorem dX4_fetches_44 : decode cX4_fetches 44 = .ok (.dup2, 1) := by decide +kernel
theorem dX4_fetches_45 : decode cX4_fetches 45 = .ok (.iaload, 1) := by decide +kernel
theorem dX4_fetches_46 : decode cX4_fetches 46 = .ok (.iload_n 3, 1) := by decide +kernel
theorem dX4_fetches_47 : decode cX4_fetches 47 = .ok (.iadd, 1) := by decide +kernel
theorem dX4_fetches_48 : decode cX4_fetches 48 = .ok (.iastore, 1) := by decide +kernel
theorem dX4_fetches_49 : decode cX4_fetches 49 = .ok (.aload_n 0, 1) := by decide +kernel
theorem dX4_fetches_50 : decode cX4_fetches 50 = .ok (.getfield 7, 3) := by decide +kernel
theorem dX4_fetches_53 : decode cX4_fetches 53 = .ok (.bipush 8, 2) := by decide +kernel
theorem dX4_fetches_55 : decode cX4_fetches 55 = .ok (.dup2, 1) := by decide +kernel
theorem dX4_fetches_56 : decode cX4_fetches 56 = .ok (.iaload, 1) := by decide +kernel
theorem dX4_fetches_57 : decode cX4_fetches 57 = .ok (.iconst 1, 1) := by decide +kernel
theorem dX4_fetches_58 : decode cX4_fetches 58 = .ok (.iadd, 1) := by decide +kernel
theorem dX4_fetches_59 : decode cX4_fetches 59 = .ok (.iastore, 1) := by decide +kernel
theorem dX4_fetches_60 : decode cX4_fetches 60 = .ok (.aload_n 0, 1) := by decide +kernel
theorem dX4_fetches_61 : decode cX4_fetches 61 = .ok (.aload_n 0, 1) := by decide +kernel
theorem dX4_fetches_62 : decode cX4_fetches 62 = .ok (.iload_n 2, 1) := by decide +kernel
theorem dX4_fetches_63 : decode cX4_fetches 63 = .ok (.iconst 0, 1) := by decide +kernel
theorem dX4_fetches_64 : decode cX4_fetches 64 = .ok (.invokevirtual 58, 3) := by decide +kernel
theorem dX4_fetches_67 : decode cX4_fetches 67 = .ok (.iconst 1, 1) := by decide +kernel
theorem dX4_fetches_68 : decode cX4_fetches 68 = .ok (.isub, 1) := by decide +kernel
theorem dX4_fetches_69 : decode cX4_fetches 69 = .ok (.iconst 2, 1) := by decide +kernel
theorem dX4_fetches_70 : decode cX4_fetches 70 = .ok (.iconst 1, 1) := by decide +kernel
theorem dX4_fetches_71 : decode cX4_fetches 71 = .ok (.invokevirtual 118, 3) := by decide +kernel
theorem dX4_fetches_74 : decode cX4_fetches 74 = .ok (.aload_n 0, 1) := by decide +kernel
theorem dX4_fetches_75 : decode cX4_fetches 75 = .ok (.iload_n 2, 1) := by decide +kernel
theorem dX4_fetches_76 : decode cX4_fetches 76 = .ok (.invokevirtual 122, 3) := by decide +kernel
theorem dX4_fetches_79 : decode cX4_fetches 79 = .ok (.iload_n 3, 1) := by decide +kernel
theorem dX4_fetches_80 : decode cX4_fetches 80 = .ok (.ireturn, 1) := by decide +kernel
set_option maxRecDepth 20000 in
theorem ggX4_fetch_X4_whyNotFetch : GoodIn wsX4_fetch wsX4_whyNotFetch := goodIn_r _ [5, 6, 7, 4, 8, 9, 10, 11, 12, 13, 14, 15, 16, 17, 18, 19, 60, 61, 62, 63, 64, 65, 66, 67, 68, 69, 70, 71, 72, 73] (by decide +kernel) (by decide +kernel)
set_option maxRecDepth 20000 in
theorem gX4_fetch_X4_whyNotFetch : GoodIn wsX4_fetch (wsV RX4 126 RX4 yX4_whyNotFetch wsX4_whyNotFetch) := goodIn_app (goodIn_of _ (by decide +kernel)) ggX4_fetch_X4_whyNotFetch
set_option maxRecDepth 20000 in
theorem ggX4_fetch_X4_record : GoodIn wsX4_fetch wsX4_record := goodIn_r _ [23, 24, 25, 13, 60, 61, 62, 63, 64, 65, 66, 67, 68, 69, 70, 71, 72, 73] (by decide +kernel) (by decide +kernel)
set_option maxRecDepth 20000 in
theorem gX4_fetch_X4_record : GoodIn wsX4_fetch (wsV RX4 47 RX4 yX4_record wsX4_record) := goodIn_app (goodIn_of _ (by decide +kernel)) ggX4_fetch_X4_record
set_option maxRecDepth 20000 in
theorem ggX4_fetch_X4_fetches : GoodIn wsX4_fetch wsX4_fetches := goodIn_r _ [29, 13, 30, 31, 32, 4, 33, 34, 35, 36, 6, 7, 8, 37, 38, 39, 40, 41, 42, 43, 44, 45, 46, 47, 48, 49, 50, 51, 52, 53, 54, 55, 56, 57, 58, 59, 60, 61, 62, 63, 64, 65, 66, 67, 68, 69, 70, 71, 72, 73] (by decide +kernel) (by decide +kernel)
set_option maxRecDepth 20000 in
theorem gX4_fetch_X4_fetches : GoodIn wsX4_fetch (wsV RX4 129 RX4 yX4_fetches wsX4_fetches) := goodIn_app (goodIn_of _ (by decide +kernel)) ggX4_fetch_X4_fetches
theorem dX4_fetch_0 : decode cX4_fetch 0 = .ok (.aload_n 0, 1) := by decide +kernel
theorem dX4_fetch_1 : decode cX4_fetch 1 = .ok (.iload_n 1, 1) := by decide +kernel
theorem dX4_fetch_2 : decode cX4_fetch 2 = .ok (.invokevirtual 126, 3) := by decide +kernel
theorem dX4_fetch_5 : decode cX4_fetch 5 = .ok (.istore_n 2, 1) := by decide +kernel
theorem dX4_fetch_6 : decode cX4_fetch 6 = .ok (.iload_n 2, 1) := by decide +kernel
theorem dX4_fetch_7 : decode cX4_fetch 7 = .ok (.ifCond .ge 5, 3) := by decide +kernel
theorem dX4_fetch_10 : decode cX4_fetch 10 = .ok (.iload_n 2, 1) := by decide +kernel
theorem dX4_fetch_11 : decode cX4_fetch 11 = .ok (.ireturn, 1) := by decide +kernel
theorem dX4_fetch_12 : decode cX4_fetch 12 = .ok (.aload_n 0, 1) := by decide +kernel
theorem dX4_fetch_13 : decode cX4_fetch 13 = .ok (.invokevirtual 47, 3) := by decide +kernel
theorem dX4_fetch_16 : decode cX4_fetch 16 = .ok (.aload_n 0, 1) := by decide +kernel
theorem dX4_fetch_17 : decode cX4_fetch 17 = .ok (.iload_n 1, 1) := by decide +kernel
theorem dX4_fetch_18 : decode cX4_fetch 18 = .ok (.invokevirtual 129, 3) := by decide +kernel
theorem dX4_fetch_21 : decode cX4_fetch 21 = .ok (.ireturn, 1) := by decide +kernel
set_option maxRecDepth 20000 in
theorem ggX4_whyNotRefuse_X4_placeBy : GoodIn wsX4_whyNotRefuse wsX4_placeBy := goodIn_r _ [5, 6, 7, 4, 8, 9, 10, 11, 12, 13, 14, 15, 16, 17, 18, 19, 20, 21, 22, 23, 42, 43, 44, 45, 46, 47, 48, 49, 50, 51, 52, 53, 54, 55] (by decide +kernel) (by decide +kernel)
set_option maxRecDepth 20000 in
theorem gX4_whyNotRefuse_X4_placeBy : GoodIn wsX4_whyNotRefuse (wsV RX4 112 RX4 yX4_placeBy wsX4_placeBy) := goodIn_app (goodIn_of _ (by decide +kernel)) ggX4_whyNotRefuse_X4_placeBy
set_option maxRecDepth 20000 in
theorem ggX4_whyNotRefuse_X4_refuseCode : GoodIn wsX4_whyNotRefuse wsX4_refuseCode := goodIn_r _ [27, 6, 7, 4, 8, 9, 10, 11, 12, 13, 14, 28, 29, 30, 31, 23, 32, 33, 34, 35, 36, 37, 42, 43, 44, 45, 46, 47, 48, 49, 50, 51, 52, 53, 54, 55] (by decide +kernel) (by decide +kernel)
set_option maxRecDepth 20000 in
theorem gX4_whyNotRefuse_X4_refuseCode : GoodIn wsX4_whyNotRefuse (wsV RX4 132 RX4 yX4_refuseCode wsX4_refuseCode) := goodIn_app (goodIn_of _ (by decide +kernel)) ggX4_whyNotRefuse_X4_refuseCode
set_option maxRecDepth 20000 in
theorem ggX4_whyNotRefuse_X4_at : GoodIn wsX4_whyNotRefuse wsX4_at := goodIn_r _ [22, 23, 42, 43, 44, 45, 46, 47, 48, 49, 50, 51, 52, 53, 54, 55] (by decide +kernel) (by decide +kernel)
set_option maxRecDepth 20000 in
theorem gX4_whyNotRefuse_X4_at : GoodIn wsX4_whyNotRefuse (wsV RX4 58 RX4 yX4_at wsX4_at) := goodIn_app (goodIn_of _ (by decide +kernel)) ggX4_whyNotRefuse_X4_at
set_option maxRecDepth 20000 in
theorem ggX4_whyNotRefuse_X4_ofSender : GoodIn wsX4_whyNotRefuse wsX4_ofSender := goodIn_r _ [41, 23, 42, 43, 44, 45, 46, 47, 48, 49, 50, 51, 52, 53, 54, 55] (by decide +kernel) (by decide +kernel)
set_option maxRecDepth 20000 in
theorem gX4_whyNotRefuse_X4_ofSender : GoodIn wsX4_whyNotRefuse (wsV RX4 135 RX4 yX4_ofSender wsX4_ofSender) := goodIn_app (goodIn_of _ (by decide +kernel)) ggX4_whyNotRefuse_X4_ofSender
set_option maxRecDepth 20000 in
theorem ggX4_whyNotRefuse_X4_refuseBy : GoodIn wsX4_whyNotRefuse wsX4_refuseBy := goodIn_r _ [35, 36, 37, 42, 43, 44, 45, 46, 47, 48, 49, 50, 51, 52, 53, 54, 55] (by decide +kernel) (by decide +kernel)
set_option maxRecDepth 20000 in
theorem gX4_whyNotRefuse_X4_refuseBy : GoodIn wsX4_whyNotRefuse (wsV RX4 82 RX4 yX4_refuseBy wsX4_refuseBy) := goodIn_app (goodIn_of _ (by decide +kernel)) ggX4_whyNotRefuse_X4_refuseBy
theorem dX4_whyNotRefuse_0 : decode cX4_whyNotRefuse 0 = .ok (.aload_n 0, 1) := by decide +kernel
theorem dX4_whyNotRefuse_1 : decode cX4_whyNotRefuse 1 = .ok (.iload_n 1, 1) := by decide +kernel
theorem dX4_whyNotRefuse_2 : decode cX4_whyNotRefuse 2 = .ok (.invokevirtual 112, 3) := by decide +kernel
theorem dX4_whyNotRefuse_5 : decode cX4_whyNotRefuse 5 = .ok (.istore_n 2, 1) := by decide +kernel
theorem dX4_whyNotRefuse_6 : decode cX4_whyNotRefuse 6 = .ok (.iload_n 2, 1) := by decide +kernel
theorem dX4_whyNotRefuse_7 : decode cX4_whyNotRefuse 7 = .ok (.bipush (-6), 2) := by decide +kernel
theorem dX4_whyNotRefuse_9 : decode cX4_whyNotRefuse 9 = .ok (.if_icmp .ne 9, 3) := by decide +kernel
theorem dX4_whyNotRefuse_12 : decode cX4_whyNotRefuse 12 = .ok (.aload_n 0, 1) := by decide +kernel
theorem dX4_whyNotRefuse_13 : decode cX4_whyNotRefuse 13 = .ok (.iload_n 1, 1) := by decide +kernel
theorem dX4_whyNotRefuse_14 : decode cX4_whyNotRefuse 14 = .ok (.invokevirtual 132, 3) := by decide +kernel
theorem dX4_whyNotRefuse_17 : decode cX4_whyNotRefuse 17 = .ok (.ireturn, 1) := by decide +kernel
theorem dX4_whyNotRefuse_18 : decode cX4_whyNotRefuse 18 = .ok (.aload_n 0, 1) := by decide +kernel
theorem dX4_whyNotRefuse_19 : decode cX4_whyNotRefuse 19 = .ok (.aload_n 0, 1) := by decide +kernel
theorem dX4_whyNotRefuse_20 : decode cX4_whyNotRefuse 20 = .ok (.iload_n 2, 1) := by decide +kernel
theorem dX4_whyNotRefuse_21 : decode cX4_whyNotRefuse 21 = .ok (.iconst 0, 1) := by decide +kernel
theorem dX4_whyNotRefuse_22 : decode cX4_whyNotRefuse 22 = .ok (.invokevirtual 58, 3) := by decide +kernel
theorem dX4_whyNotRefuse_25 : decode cX4_whyNotRefuse 25 = .ok (.iconst 1, 1) := by decide +kernel
theorem dX4_whyNotRefuse_26 : decode cX4_whyNotRefuse 26 = .ok (.isub, 1) := by decide +kernel
theorem dX4_whyNotRefuse_27 : decode cX4_whyNotRefuse 27 = .ok (.iconst 0, 1) := by decide +kernel
theorem dX4_whyNotRefuse_28 : decode cX4_whyNotRefuse 28 = .ok (.invokevirtual 135, 3) := by decide +kernel
theorem dX4_whyNotRefuse_31 : decode cX4_whyNotRefuse 31 = .ok (.bipush 9, 2) := by decide +kernel
theorem dX4_whyNotRefuse_33 : decode cX4_whyNotRefuse 33 = .ok (.if_icmp .ne 15, 3) := by decide +kernel
theorem dX4_whyNotRefuse_36 : decode cX4_whyNotRefuse 36 = .ok (.aload_n 0, 1) := by decide +kernel
theorem dX4_whyNotRefuse_37 : decode cX4_whyNotRefuse 37 = .ok (.iconst 3, 1) := by decide +kernel
theorem dX4_whyNotRefuse_38 : decode cX4_whyNotRefuse 38 = .ok (.bipush (-6), 2) := by decide +kernel
theorem dX4_whyNotRefuse_40 : decode cX4_whyNotRefuse 40 = .ok (.bipush (-3), 2) := by decide +kernel
theorem dX4_whyNotRefuse_42 : decode cX4_whyNotRefuse 42 = .ok (.invokevirtual 82, 3) := by decide +kernel
theorem dX4_whyNotRefuse_45 : decode cX4_whyNotRefuse 45 = .ok (.goto 4, 3) := by decide +kernel
theorem dX4_whyNotRefuse_48 : decode cX4_whyNotRefuse 48 = .ok (.iconst 0, 1) := by decide +kernel
theorem dX4_whyNotRefuse_49 : decode cX4_whyNotRefuse 49 = .ok (.ireturn, 1) := by decide +kernel
set_option maxRecDepth 20000 in
theorem ggX4_goesBack_X4_at : GoodIn wsX4_goesBack wsX4_at := goodIn_r _ [5, 6, 19, 20, 21, 22, 23, 24, 25, 26, 27, 28, 29, 30, 31, 32] (by decide +kernel) (by decide +kernel)
set_option maxRecDepth 20000 in
theorem gX4_goesBack_X4_at : GoodIn wsX4_goesBack (wsV RX4 58 RX4 yX4_at wsX4_at) := goodIn_app (goodIn_of _ (by decide +kernel)) ggX4_goesBack_X4_at
set_option maxRecDepth 20000 in
theorem ggX4_goesBack_X4_count : GoodIn wsX4_goesBack wsX4_count := goodIn_r _ [10, 6, 19, 20, 21, 22, 23, 24, 25, 26, 27, 28, 29, 30, 31, 32] (by decide +kernel) (by decide +kernel)
set_option maxRecDepth 20000 in
theorem gX4_goesBack_X4_count : GoodIn wsX4_goesBack (wsV RX4 118 RX4 yX4_count wsX4_count) := goodIn_app (goodIn_of _ (by decide +kernel)) ggX4_goesBack_X4_count
set_option maxRecDepth 20000 in
theorem ggX4_goesBack_X4_leave : GoodIn wsX4_goesBack wsX4_leave := goodIn_r _ [14, 6, 1, 2, 3, 4, 5, 19, 20, 21, 22, 23, 24, 25, 26, 27, 28, 29, 30, 31, 32] (by decide +kernel) (by decide +kernel)
set_option maxRecDepth 20000 in
theorem gX4_goesBack_X4_leave : GoodIn wsX4_goesBack (wsV RX4 122 RX4 yX4_leave wsX4_leave) := goodIn_app (goodIn_of _ (by decide +kernel)) ggX4_goesBack_X4_leave
set_option maxRecDepth 20000 in
theorem ggX4_goesBack_X4_ofSender : GoodIn wsX4_goesBack wsX4_ofSender := goodIn_r _ [18, 6, 19, 20, 21, 22, 23, 24, 25, 26, 27, 28, 29, 30, 31, 32] (by decide +kernel) (by decide +kernel)
set_option maxRecDepth 20000 in
theorem gX4_goesBack_X4_ofSender : GoodIn wsX4_goesBack (wsV RX4 135 RX4 yX4_ofSender wsX4_ofSender) := goodIn_app (goodIn_of _ (by decide +kernel)) ggX4_goesBack_X4_ofSender
theorem dX4_goesBack_0 : decode cX4_goesBack 0 = .ok (.aload_n 0, 1) := by decide +kernel
theorem dX4_goesBack_1 : decode cX4_goesBack 1 = .ok (.iload_n 1, 1) := by decide +kernel
theorem dX4_goesBack_2 : decode cX4_goesBack 2 = .ok (.iconst 0, 1) := by decide +kernel
theorem dX4_goesBack_3 : decode cX4_goesBack 3 = .ok (.invokevirtual 58, 3) := by decide +kernel
theorem dX4_goesBack_6 : decode cX4_goesBack 6 = .ok (.iconst 1, 1) := by decide +kernel
theorem dX4_goesBack_7 : decode cX4_goesBack 7 = .ok (.isub, 1) := by decide +kernel
theorem dX4_goesBack_8 : decode cX4_goesBack 8 = .ok (.istore_n 2, 1) := by decide +kernel
theorem dX4_goesBack_9 : decode cX4_goesBack 9 = .ok (.aload_n 0, 1) := by decide +kernel
theorem dX4_goesBack_10 : decode cX4_goesBack 10 = .ok (.iload_n 2, 1) := by decide +kernel
theorem dX4_goesBack_11 : decode cX4_goesBack 11 = .ok (.iconst 0, 1) := by decide +kernel
theorem dX4_goesBack_12 : decode cX4_goesBack 12 = .ok (.iconst 1, 1) := by decide +kernel
theorem dX4_goesBack_13 : decode cX4_goesBack 13 = .ok (.invokevirtual 118, 3) := by decide +kernel
theorem dX4_goesBack_16 : decode cX4_goesBack 16 = .ok (.aload_n 0, 1) := by decide +kernel
theorem dX4_goesBack_17 : decode cX4_goesBack 17 = .ok (.iload_n 1, 1) := by decide +kernel
theorem dX4_goesBack_18 : decode cX4_goesBack 18 = .ok (.invokevirtual 122, 3) := by decide +kernel
theorem dX4_goesBack_21 : decode cX4_goesBack 21 = .ok (.aload_n 0, 1) := by decide +kernel
theorem dX4_goesBack_22 : decode cX4_goesBack 22 = .ok (.iload_n 2, 1) := by decide +kernel
theorem dX4_goesBack_23 : decode cX4_goesBack 23 = .ok (.iconst 0, 1) := by decide +kernel
theorem dX4_goesBack_24 : decode cX4_goesBack 24 = .ok (.invokevirtual 135, 3) := by decide +kernel
theorem dX4_goesBack_27 : decode cX4_goesBack 27 = .ok (.ireturn, 1) := by decide +kernel
set_option maxRecDepth 20000 in
theorem ggX4_refuse_X4_whyNotRefuse : GoodIn wsX4_refuse wsX4_whyNotRefuse := goodIn_r _ [5, 6, 7, 8, 4, 9, 10, 11, 12, 13, 14, 15, 16, 17, 18, 19, 20, 21, 22, 23, 24, 25, 26, 27, 28, 29, 30, 31, 32, 33, 34, 35, 36, 37, 38, 39, 40, 41, 42, 43, 44, 45, 64, 65, 66, 67, 68, 69, 70, 71, 72, 73, 74, 75, 76, 77] (by decide +kernel) (by decide +kernel)
set_option maxRecDepth 20000 in
theorem gX4_refuse_X4_whyNotRefuse : GoodIn wsX4_refuse (wsV RX4 138 RX4 yX4_whyNotRefuse wsX4_whyNotRefuse) := goodIn_app (goodIn_of _ (by decide +kernel)) ggX4_refuse_X4_whyNotRefuse
set_option maxRecDepth 20000 in
theorem ggX4_refuse_X4_record : GoodIn wsX4_refuse wsX4_record := goodIn_r _ [49, 50, 51, 27, 64, 65, 66, 67, 68, 69, 70, 71, 72, 73, 74, 75, 76, 77] (by decide +kernel) (by decide +kernel)
set_option maxRecDepth 20000 in
theorem gX4_refuse_X4_record : GoodIn wsX4_refuse (wsV RX4 47 RX4 yX4_record wsX4_record) := goodIn_app (goodIn_of _ (by decide +kernel)) ggX4_refuse_X4_record
set_option maxRecDepth 20000 in
theorem ggX4_refuse_X4_placeBy : GoodIn wsX4_refuse wsX4_placeBy := goodIn_r _ [9, 10, 11, 4, 12, 13, 14, 15, 16, 17, 18, 19, 20, 21, 22, 23, 24, 25, 26, 27, 64, 65, 66, 67, 68, 69, 70, 71, 72, 73, 74, 75, 76, 77] (by decide +kernel) (by decide +kernel)
set_option maxRecDepth 20000 in
theorem gX4_refuse_X4_placeBy : GoodIn wsX4_refuse (wsV RX4 112 RX4 yX4_placeBy wsX4_placeBy) := goodIn_app (goodIn_of _ (by decide +kernel)) ggX4_refuse_X4_placeBy
set_option maxRecDepth 20000 in
theorem ggX4_refuse_X4_goesBack : GoodIn wsX4_refuse wsX4_goesBack := goodIn_r _ [55, 23, 24, 25, 4, 26, 27, 56, 57, 58, 59, 60, 61, 62, 63, 42, 43, 44, 45, 64, 65, 66, 67, 68, 69, 70, 71, 72, 73, 74, 75, 76, 77] (by decide +kernel) (by decide +kernel)
set_option maxRecDepth 20000 in
theorem gX4_refuse_X4_goesBack : GoodIn wsX4_refuse (wsV RX4 141 RX4 yX4_goesBack wsX4_goesBack) := goodIn_app (goodIn_of _ (by decide +kernel)) ggX4_refuse_X4_goesBack
theorem dX4_refuse_0 : decode cX4_refuse 0 = .ok (.aload_n 0, 1) := by decide +kernel
theorem dX4_refuse_1 : decode cX4_refuse 1 = .ok (.iload_n 1, 1) := by decide +kernel
theorem dX4_refuse_2 : decode cX4_refuse 2 = .ok (.invokevirtual 138, 3) := by decide +kernel
theorem dX4_refuse_5 : decode cX4_refuse 5 = .ok (.istore_n 2, 1) := by decide +kernel
theorem dX4_refuse_6 : decode cX4_refuse 6 = .ok (.iload_n 2, 1) := by decide +kernel
theorem dX4_refuse_7 : decode cX4_refuse 7 = .ok (.ifCond .ge 5, 3) := by decide +kernel
theorem dX4_refuse_10 : decode cX4_refuse 10 = .ok (.iload_n 2, 1) := by decide +kernel
theorem dX4_refuse_11 : decode cX4_refuse 11 = .ok (.ireturn, 1) := by decide +kernel
theorem dX4_refuse_12 : decode cX4_refuse 12 = .ok (.aload_n 0, 1) := by decide +kernel
theorem dX4_refuse_13 : decode cX4_refuse 13 = .ok (.invokevirtual 47, 3) := by decide +kernel
theorem dX4_refuse_16 : decode cX4_refuse 16 = .ok (.aload_n 0, 1) := by decide +kernel
theorem dX4_refuse_17 : decode cX4_refuse 17 = .ok (.aload_n 0, 1) := by decide +kernel
theorem dX4_refuse_18 : decode cX4_refuse 18 = .ok (.iload_n 1, 1) := by decide +kernel
theorem dX4_refuse_19 : decode cX4_refuse 19 = .ok (.invokevirtual 112, 3) := by decide +kernel
theorem dX4_refuse_22 : decode cX4_refuse 22 = .ok (.invokevirtual 141, 3) := by decide +kernel
theorem dX4_refuse_25 : decode cX4_refuse 25 = .ok (.ireturn, 1) := by decide +kernel
set_option maxRecDepth 20000 in
theorem ggX4_whyNotMove_X4_placeBy : GoodIn wsX4_whyNotMove wsX4_placeBy := goodIn_r _ [5, 6, 7, 4, 8, 9, 10, 11, 12, 13, 14, 15, 16, 17, 18, 19, 20, 21, 22, 23, 53, 54, 55, 56, 57, 58, 59, 60, 61, 62, 63, 64, 65, 66] (by decide +kernel) (by decide +kernel)
set_option maxRecDepth 20000 in
theorem gX4_whyNotMove_X4_placeBy : GoodIn wsX4_whyNotMove (wsV RX4 112 RX4 yX4_placeBy wsX4_placeBy) := goodIn_app (goodIn_of _ (by decide +kernel)) ggX4_whyNotMove_X4_placeBy
set_option maxRecDepth 20000 in
theorem ggX4_whyNotMove_X4_refuseCode : GoodIn wsX4_whyNotMove wsX4_refuseCode := goodIn_r _ [27, 6, 7, 4, 8, 9, 10, 11, 12, 13, 14, 28, 29, 30, 31, 23, 32, 33, 34, 35, 36, 37, 53, 54, 55, 56, 57, 58, 59, 60, 61, 62, 63, 64, 65, 66] (by decide +kernel) (by decide +kernel)
set_option maxRecDepth 20000 in
theorem gX4_whyNotMove_X4_refuseCode : GoodIn wsX4_whyNotMove (wsV RX4 132 RX4 yX4_refuseCode wsX4_refuseCode) := goodIn_app (goodIn_of _ (by decide +kernel)) ggX4_whyNotMove_X4_refuseCode
set_option maxRecDepth 20000 in
theorem ggX4_whyNotMove_X4_in : GoodIn wsX4_whyNotMove wsX4_in := goodIn_r _ [11] (by decide +kernel) (by decide +kernel)
set_option maxRecDepth 20000 in
theorem gX4_whyNotMove_X4_in : GoodIn wsX4_whyNotMove (va_wsS RX4 50 yX4_in wsX4_in) := goodIn_app (goodIn_of _ (by decide +kernel)) ggX4_whyNotMove_X4_in
set_option maxRecDepth 20000 in
theorem ggX4_whyNotMove_X4_at : GoodIn wsX4_whyNotMove wsX4_at := goodIn_r _ [22, 23, 53, 54, 55, 56, 57, 58, 59, 60, 61, 62, 63, 64, 65, 66] (by decide +kernel) (by decide +kernel)
set_option maxRecDepth 20000 in
theorem gX4_whyNotMove_X4_at : GoodIn wsX4_whyNotMove (wsV RX4 58 RX4 yX4_at wsX4_at) := goodIn_app (goodIn_of _ (by decide +kernel)) ggX4_whyNotMove_X4_at
set_option maxRecDepth 20000 in
theorem ggX4_whyNotMove_X4_firstPlace : GoodIn wsX4_whyNotMove wsX4_firstPlace := goodIn_r _ [41, 15, 16, 17, 4, 18, 19, 20, 21, 22, 23, 42, 43, 44, 45, 46, 47, 48, 28, 29, 30, 31, 53, 54, 55, 56, 57, 58, 59, 60, 61, 62, 63, 64, 65, 66] (by decide +kernel) (by decide +kernel)
set_option maxRecDepth 20000 in
theorem gX4_whyNotMove_X4_firstPlace : GoodIn wsX4_whyNotMove (wsV RX4 89 RX4 yX4_firstPlace wsX4_firstPlace) := goodIn_app (goodIn_of _ (by decide +kernel)) ggX4_whyNotMove_X4_firstPlace
set_option maxRecDepth 20000 in
theorem ggX4_whyNotMove_X4_refusePlace : GoodIn wsX4_whyNotMove wsX4_refusePlace := goodIn_r _ [52, 15, 16, 17, 4, 18, 19, 20, 21, 22, 23, 32, 33, 34, 35, 36, 37, 53, 54, 55, 56, 57, 58, 59, 60, 61, 62, 63, 64, 65, 66] (by decide +kernel) (by decide +kernel)
set_option maxRecDepth 20000 in
theorem gX4_whyNotMove_X4_refusePlace : GoodIn wsX4_whyNotMove (wsV RX4 92 RX4 yX4_refusePlace wsX4_refusePlace) := goodIn_app (goodIn_of _ (by decide +kernel)) ggX4_whyNotMove_X4_refusePlace
theorem dX4_whyNotMove_0 : decode cX4_whyNotMove 0 = .ok (.aload_n 0, 1) := by decide +kernel
theorem dX4_whyNotMove_1 : decode cX4_whyNotMove 1 = .ok (.iload_n 1, 1) := by decide +kernel
theorem dX4_whyNotMove_2 : decode cX4_whyNotMove 2 = .ok (.invokevirtual 112, 3) := by decide +kernel
theorem dX4_whyNotMove_5 : decode cX4_whyNotMove 5 = .ok (.istore_n 3, 1) := by decide +kernel
theorem dX4_whyNotMove_6 : decode cX4_whyNotMove 6 = .ok (.iload_n 3, 1) := by decide +kernel
theorem dX4_whyNotMove_7 : decode cX4_whyNotMove 7 = .ok (.bipush (-6), 2) := by decide +kernel
theorem dX4_whyNotMove_9 : decode cX4_whyNotMove 9 = .ok (.if_icmp .ne 9, 3) := by decide +kernel
theorem dX4_whyNotMove_12 : decode cX4_whyNotMove 12 = .ok (.aload_n 0, 1) := by decide +kernel
theorem dX4_whyNotMove_13 : decode cX4_whyNotMove 13 = .ok (.iload_n 1, 1) := by decide +kernel
theorem dX4_whyNotMove_14 : decode cX4_whyNotMove 14 = .ok (.invokevirtual 132, 3) := by decide +kernel
theorem dX4_whyNotMove_17 : decode cX4_whyNotMove 17 = .ok (.ireturn, 1) := by decide +kernel
theorem dX4_whyNotMove_18 : decode cX4_whyNotMove 18 = .ok (.iload_n 2, 1) := by decide +kernel
theorem dX4_whyNotMove_19 : decode cX4_whyNotMove 19 = .ok (.iconst 0, 1) := by decide +kernel
theorem dX4_whyNotMove_20 : decode cX4_whyNotMove 20 = .ok (.iconst 5, 1) := by decide +kernel
theorem dX4_whyNotMove_21 : decode cX4_whyNotMove 21 = .ok (.invokestatic 50, 3) := by decide +kernel
theorem dX4_whyNotMove_24 : decode cX4_whyNotMove 24 = .ok (.ifCond .ne 5, 3) := by decide +kernel
theorem dX4_whyNotMove_27 : decode cX4_whyNotMove 27 = .ok (.iconst (-1), 1) := by decide +kernel
theorem dX4_whyNotMove_28 : decode cX4_whyNotMove 28 = .ok (.ireturn, 1) := by decide +kernel
theorem dX4_whyNotMove_29 : decode cX4_whyNotMove 29 = .ok (.iload_n 3, 1) := by decide +kernel
theorem dX4_whyNotMove_30 : decode cX4_whyNotMove 30 = .ok (.bipush 8, 2) := by decide +kernel
theorem dX4_whyNotMove_32 : decode cX4_whyNotMove 32 = .ok (.idiv, 1) := by decide +kernel
theorem dX4_whyNotMove_33 : decode cX4_whyNotMove 33 = .ok (.iload_n 2, 1) := by decide +kernel
theorem dX4_whyNotMove_34 : decode cX4_whyNotMove 34 = .ok (.if_icmp .eq 15, 3) := by decide +kernel
theorem dX4_whyNotMove_37 : decode cX4_whyNotMove 37 = .ok (.aload_n 0, 1) := by decide +kernel
theorem dX4_whyNotMove_38 : decode cX4_whyNotMove 38 = .ok (.iload_n 3, 1) := by decide +kernel
theorem dX4_whyNotMove_39 : decode cX4_whyNotMove 39 = .ok (.iconst 1, 1) := by decide +kernel
theorem dX4_whyNotMove_40 : decode cX4_whyNotMove 40 = .ok (.invokevirtual 58, 3) := by decide +kernel
theorem dX4_whyNotMove_43 : decode cX4_whyNotMove 43 = .ok (.iload_n 2, 1) := by decide +kernel
theorem dX4_whyNotMove_44 : decode cX4_whyNotMove 44 = .ok (.iconst 2, 1) := by decide +kernel
theorem dX4_whyNotMove_45 : decode cX4_whyNotMove 45 = .ok (.idiv, 1) := by decide +kernel
theorem dX4_whyNotMove_46 : decode cX4_whyNotMove 46 = .ok (.if_icmp .le 6, 3) := by decide +kernel
theorem dX4_whyNotMove_49 : decode cX4_whyNotMove 49 = .ok (.bipush (-2), 2) := by decide +kernel
theorem dX4_whyNotMove_51 : decode cX4_whyNotMove 51 = .ok (.ireturn, 1) := by decide +kernel
theorem dX4_whyNotMove_52 : decode cX4_whyNotMove 52 = .ok (.aload_n 0, 1) := by decide +kernel
theorem dX4_whyNotMove_53 : decode cX4_whyNotMove 53 = .ok (.iload_n 2, 1) := by decide +kernel
theorem dX4_whyNotMove_54 : decode cX4_whyNotMove 54 = .ok (.iload_n 2, 1) := by decide +kernel
theorem dX4_whyNotMove_55 : decode cX4_whyNotMove 55 = .ok (.invokevirtual 89, 3) := by decide +kernel
theorem dX4_whyNotMove_58 : decode cX4_whyNotMove 58 = .ok (.bipush (-6), 2) := by decide +kernel
theorem dX4_whyNotMove_60 : decode cX4_whyNotMove 60 = .ok (.if_icmp .ne 12, 3) := by decide +kernel
theorem dX4_whyNotMove_63 : decode cX4_whyNotMove 63 = .ok (.aload_n 0, 1) := by decide +kernel
theorem dX4_whyNotMove_64 : decode cX4_whyNotMove 64 = .ok (.iload_n 2, 1) := by decide +kernel
theorem dX4_whyNotMove_65 : decode cX4_whyNotMove 65 = .ok (.iload_n 2, 1) := by decide +kernel
theorem dX4_whyNotMove_66 : decode cX4_whyNotMove 66 = .ok (.invokevirtual 92, 3) := by decide +kernel
theorem dX4_whyNotMove_69 : decode cX4_whyNotMove 69 = .ok (.goto 4, 3) := by decide +kernel
theorem dX4_whyNotMove_72 : decode cX4_whyNotMove 72 = .ok (.iconst 0, 1) := by decide +kernel
theorem dX4_whyNotMove_73 : decode cX4_whyNotMove 73 = .ok (.ireturn, 1) := by decide +kernel
set_option maxRecDepth 20000 in
theorem ggX4_moves_X4_placeBy : GoodIn wsX4_moves wsX4_placeBy := goodIn_r _ [5, 6, 7, 4, 8, 9, 10, 11, 12, 13, 14, 15, 16, 17, 18, 19, 20, 21, 22, 23, 51, 52, 53, 54, 55, 56, 57, 58, 59, 60, 61, 62, 63, 64] (by decide +kernel) (by decide +kernel)
set_option maxRecDepth 20000 in
theorem gX4_moves_X4_placeBy : GoodIn wsX4_moves (wsV RX4 112 RX4 yX4_placeBy wsX4_placeBy) := goodIn_app (goodIn_of _ (by decide +kernel)) ggX4_moves_X4_placeBy
set_option maxRecDepth 20000 in
theorem ggX4_moves_X4_firstPlace : GoodIn wsX4_moves wsX4_firstPlace := goodIn_r _ [27, 15, 16, 17, 4, 18, 19, 20, 21, 22, 23, 28, 29, 30, 31, 32, 33, 34, 35, 36, 37, 38, 51, 52, 53, 54, 55, 56, 57, 58, 59, 60, 61, 62, 63, 64] (by decide +kernel) (by decide +kernel)
set_option maxRecDepth 20000 in
theorem gX4_moves_X4_firstPlace : GoodIn wsX4_moves (wsV RX4 89 RX4 yX4_firstPlace wsX4_firstPlace) := goodIn_app (goodIn_of _ (by decide +kernel)) ggX4_moves_X4_firstPlace
set_option maxRecDepth 20000 in
theorem ggX4_moves_X4_at : GoodIn wsX4_moves wsX4_at := goodIn_r _ [22, 23, 51, 52, 53, 54, 55, 56, 57, 58, 59, 60, 61, 62, 63, 64] (by decide +kernel) (by decide +kernel)
set_option maxRecDepth 20000 in
theorem gX4_moves_X4_at : GoodIn wsX4_moves (wsV RX4 58 RX4 yX4_at wsX4_at) := goodIn_app (goodIn_of _ (by decide +kernel)) ggX4_moves_X4_at
set_option maxRecDepth 20000 in
theorem ggX4_moves_X4_lay : GoodIn wsX4_moves wsX4_lay := goodIn_r _ [42, 23, 32, 33, 4, 34, 51, 52, 53, 54, 55, 56, 57, 58, 59, 60, 61, 62, 63, 64] (by decide +kernel) (by decide +kernel)
set_option maxRecDepth 20000 in
theorem gX4_moves_X4_lay : GoodIn wsX4_moves (wsV RX4 95 RX4 yX4_lay wsX4_lay) := goodIn_app (goodIn_of _ (by decide +kernel)) ggX4_moves_X4_lay
set_option maxRecDepth 20000 in
theorem ggX4_moves_X4_leave : GoodIn wsX4_moves wsX4_leave := goodIn_r _ [46, 23, 19, 20, 21, 4, 22, 51, 52, 53, 54, 55, 56, 57, 58, 59, 60, 61, 62, 63, 64] (by decide +kernel) (by decide +kernel)
set_option maxRecDepth 20000 in
theorem gX4_moves_X4_leave : GoodIn wsX4_moves (wsV RX4 122 RX4 yX4_leave wsX4_leave) := goodIn_app (goodIn_of _ (by decide +kernel)) ggX4_moves_X4_leave
set_option maxRecDepth 20000 in
theorem ggX4_moves_X4_codeOn : GoodIn wsX4_moves wsX4_codeOn := goodIn_r _ [50, 19, 20, 21, 4, 22, 23, 12, 13, 14, 51, 52, 53, 54, 55, 56, 57, 58, 59, 60, 61, 62, 63, 64] (by decide +kernel) (by decide +kernel)
set_option maxRecDepth 20000 in
theorem gX4_moves_X4_codeOn : GoodIn wsX4_moves (wsV RX4 99 RX4 yX4_codeOn wsX4_codeOn) := goodIn_app (goodIn_of _ (by decide +kernel)) ggX4_moves_X4_codeOn
theorem dX4_moves_0 : decode cX4_moves 0 = .ok (.aload_n 0, 1) := by decide +kernel
theorem dX4_moves_1 : decode cX4_moves 1 = .ok (.iload_n 1, 1) := by decide +kernel
theorem dX4_moves_2 : decode cX4_moves 2 = .ok (.invokevirtual 112, 3) := by decide +kernel
theorem dX4_moves_5 : decode cX4_moves 5 = .ok (.istore_n 3, 1) := by decide +kernel
theorem dX4_moves_6 : decode cX4_moves 6 = .ok (.aload_n 0, 1) := by decide +kernel
theorem dX4_moves_7 : decode cX4_moves 7 = .ok (.iload_n 2, 1) := by decide +kernel
theorem dX4_moves_8 : decode cX4_moves 8 = .ok (.iload_n 2, 1) := by decide +kernel
theorem dX4_moves_9 : decode cX4_moves 9 = .ok (.invokevirtual 89, 3) := by decide +kernel
theorem dX4_moves_12 : decode cX4_moves 12 = .ok (.istore 4, 2) := by decide +kernel
theorem dX4_moves_14 : decode cX4_moves 14 = .ok (.aload_n 0, 1) := by decide +kernel
theorem dX4_moves_15 : decode cX4_moves 15 = .ok (.iload 4, 2) := by decide +kernel
theorem dX4_moves_17 : decode cX4_moves 17 = .ok (.aload_n 0, 1) := by decide +kernel
theorem dX4_moves_18 : decode cX4_moves 18 = .ok (.iload_n 3, 1) := by decide +kernel
theorem dX4_moves_19 : decode cX4_moves 19 = .ok (.iconst 0, 1) := by decide +kernel
theorem dX4_moves_20 : decode cX4_moves 20 = .ok (.invokevirtual 58, 3) := by decide +kernel
theorem dX4_moves_23 : decode cX4_moves 23 = .ok (.iconst 1, 1) := by decide +kernel
theorem dX4_moves_24 : decode cX4_moves 24 = .ok (.isub, 1) := by decide +kernel
theorem dX4_moves_25 : decode cX4_moves 25 = .ok (.aload_n 0, 1) := by decide +kernel
theorem dX4_moves_26 : decode cX4_moves 26 = .ok (.iload_n 3, 1) := by decide +kernel
theorem dX4_moves_27 : decode cX4_moves 27 = .ok (.iconst 1, 1) := by decide +kernel
theorem dX4_moves_28 : decode cX4_moves 28 = .ok (.invokevirtual 58, 3) := by decide +kernel
theorem dX4_moves_31 : decode cX4_moves 31 = .ok (.aload_n 0, 1) := by decide +kernel
theorem dX4_moves_32 : decode cX4_moves 32 = .ok (.iload_n 3, 1) := by decide +kernel
theorem dX4_moves_33 : decode cX4_moves 33 = .ok (.iconst 2, 1) := by decide +kernel
theorem dX4_moves_34 : decode cX4_moves 34 = .ok (.invokevirtual 58, 3) := by decide +kernel
theorem dX4_moves_37 : decode cX4_moves 37 = .ok (.invokevirtual 95, 3) := by decide +kernel
theorem dX4_moves_40 : decode cX4_moves 40 = .ok (.aload_n 0, 1) := by decide +kernel
theorem dX4_moves_41 : decode cX4_moves 41 = .ok (.iload_n 3, 1) := by decide +kernel
theorem dX4_moves_42 : decode cX4_moves 42 = .ok (.invokevirtual 122, 3) := by decide +kernel
theorem dX4_moves_45 : decode cX4_moves 45 = .ok (.aload_n 0, 1) := by decide +kernel
theorem dX4_moves_46 : decode cX4_moves 46 = .ok (.iload 4, 2) := by decide +kernel
theorem dX4_moves_48 : decode cX4_moves 48 = .ok (.invokevirtual 99, 3) := by decide +kernel
theorem dX4_moves_51 : decode cX4_moves 51 = .ok (.ireturn, 1) := by decide +kernel
set_option maxRecDepth 20000 in
theorem ggX4_move_X4_whyNotMove : GoodIn wsX4_move wsX4_whyNotMove := goodIn_r _ [5, 6, 7, 8, 4, 9, 10, 11, 12, 13, 14, 15, 16, 17, 18, 19, 20, 21, 22, 23, 24, 25, 26, 27, 28, 29, 30, 31, 32, 33, 34, 35, 36, 37, 38, 39, 40, 41, 42, 43, 44, 45, 46, 47, 48, 49, 50, 51, 52, 53, 54, 55, 56, 79, 80, 81, 82, 83, 84, 85, 86, 87, 88, 89, 90, 91, 92] (by decide +kernel) (by decide +kernel)
set_option maxRecDepth 20000 in
theorem gX4_move_X4_whyNotMove : GoodIn wsX4_move (wsV RX4 144 RX4 yX4_whyNotMove wsX4_whyNotMove) := goodIn_app (goodIn_of _ (by decide +kernel)) ggX4_move_X4_whyNotMove
set_option maxRecDepth 20000 in
theorem ggX4_move_X4_record : GoodIn wsX4_move wsX4_record := goodIn_r _ [60, 61, 62, 27, 79, 80, 81, 82, 83, 84, 85, 86, 87, 88, 89, 90, 91, 92] (by decide +kernel) (by decide +kernel)
set_option maxRecDepth 20000 in
theorem gX4_move_X4_record : GoodIn wsX4_move (wsV RX4 47 RX4 yX4_record wsX4_record) := goodIn_app (goodIn_of _ (by decide +kernel)) ggX4_move_X4_record
set_option maxRecDepth 20000 in
theorem ggX4_move_X4_moves : GoodIn wsX4_move wsX4_moves := goodIn_r _ [66, 6, 7, 8, 4, 9, 10, 11, 12, 13, 14, 15, 16, 17, 18, 19, 20, 21, 22, 23, 24, 25, 26, 27, 42, 43, 44, 45, 46, 47, 48, 49, 50, 51, 52, 32, 33, 34, 35, 67, 68, 69, 70, 71, 72, 73, 74, 75, 76, 77, 78, 79, 80, 81, 82, 83, 84, 85, 86, 87, 88, 89, 90, 91, 92] (by decide +kernel) (by decide +kernel)
set_option maxRecDepth 20000 in
theorem gX4_move_X4_moves : GoodIn wsX4_move (wsV RX4 147 RX4 yX4_moves wsX4_moves) := goodIn_app (goodIn_of _ (by decide +kernel)) ggX4_move_X4_moves
theorem dX4_move_0 : decode cX4_move 0 = .ok (.aload_n 0, 1) := by decide +kernel
theorem dX4_move_1 : decode cX4_move 1 = .ok (.iload_n 1, 1) := by decide +kernel
theorem dX4_move_2 : decode cX4_move 2 = .ok (.iload_n 2, 1) := by decide +kernel
theorem dX4_move_3 : decode cX4_move 3 = .ok (.invokevirtual 144, 3) := by decide +kernel
theorem dX4_move_6 : decode cX4_move 6 = .ok (.istore_n 3, 1) := by decide +kernel
theorem dX4_move_7 : decode cX4_move 7 = .ok (.iload_n 3, 1) := by decide +kernel
theorem dX4_move_8 : decode cX4_move 8 = .ok (.ifCond .ge 5, 3) := by decide +kernel
theorem dX4_move_11 : decode cX4_move 11 = .ok (.iload_n 3, 1) := by decide +kernel
theorem dX4_move_12 : decode cX4_move 12 = .ok (.ireturn, 1) := by decide +kernel
theorem dX4_move_13 : decode cX4_move 13 = .ok (.aload_n 0, 1) := by decide +kernel
theorem dX4_move_14 : decode cX4_move 14 = .ok (.invokevirtual 47, 3) := by decide +kernel
theorem dX4_move_17 : decode cX4_move 17 = .ok (.aload_n 0, 1) := by decide +kernel
theorem dX4_move_18 : decode cX4_move 18 = .ok (.iload_n 1, 1) := by decide +kernel
theorem dX4_move_19 : decode cX4_move 19 = .ok (.iload_n 2, 1) := by decide +kernel
theorem dX4_move_20 : decode cX4_move 20 = .ok (.invokevirtual 147, 3) := by decide +kernel
theorem dX4_move_23 : decode cX4_move 23 = .ok (.ireturn, 1) := by decide +kernel
set_option maxRecDepth 20000 in
theorem ggX4_whyNotPass_X4_in : GoodIn wsX4_whyNotPass wsX4_in := goodIn_r _ [5] (by decide +kernel) (by decide +kernel)
set_option maxRecDepth 20000 in
theorem gX4_whyNotPass_X4_in : GoodIn wsX4_whyNotPass (va_wsS RX4 50 yX4_in wsX4_in) := goodIn_app (goodIn_of _ (by decide +kernel)) ggX4_whyNotPass_X4_in
theorem dX4_whyNotPass_0 : decode cX4_whyNotPass 0 = .ok (.iload_n 1, 1) := by decide +kernel
theorem dX4_whyNotPass_1 : decode cX4_whyNotPass 1 = .ok (.iconst 1, 1) := by decide +kernel
theorem dX4_whyNotPass_2 : decode cX4_whyNotPass 2 = .ok (.bipush 30, 2) := by decide +kernel
theorem dX4_whyNotPass_4 : decode cX4_whyNotPass 4 = .ok (.invokestatic 50, 3) := by decide +kernel
theorem dX4_whyNotPass_7 : decode cX4_whyNotPass 7 = .ok (.ifCond .ne 8, 3) := by decide +kernel
theorem dX4_whyNotPass_10 : decode cX4_whyNotPass 10 = .ok (.bipush (-2), 2) := by decide +kernel
theorem dX4_whyNotPass_12 : decode cX4_whyNotPass 12 = .ok (.goto 23, 3) := by decide +kernel
theorem dX4_whyNotPass_15 : decode cX4_whyNotPass 15 = .ok (.aload_n 0, 1) := by decide +kernel
theorem dX4_whyNotPass_16 : decode cX4_whyNotPass 16 = .ok (.getfield 7, 3) := by decide +kernel
theorem dX4_whyNotPass_19 : decode cX4_whyNotPass 19 = .ok (.iconst 5, 1) := by decide +kernel
theorem dX4_whyNotPass_20 : decode cX4_whyNotPass 20 = .ok (.iaload, 1) := by decide +kernel
theorem dX4_whyNotPass_21 : decode cX4_whyNotPass 21 = .ok (.iload_n 1, 1) := by decide +kernel
theorem dX4_whyNotPass_22 : decode cX4_whyNotPass 22 = .ok (.iadd, 1) := by decide +kernel
theorem dX4_whyNotPass_23 : decode cX4_whyNotPass 23 = .ok (.sipush 9999, 3) := by decide +kernel
theorem dX4_whyNotPass_26 : decode cX4_whyNotPass 26 = .ok (.if_icmp .le 8, 3) := by decide +kernel
theorem dX4_whyNotPass_29 : decode cX4_whyNotPass 29 = .ok (.bipush (-4), 2) := by decide +kernel
theorem dX4_whyNotPass_31 : decode cX4_whyNotPass 31 = .ok (.goto 4, 3) := by decide +kernel
theorem dX4_whyNotPass_34 : decode cX4_whyNotPass 34 = .ok (.iconst 0, 1) := by decide +kernel
theorem dX4_whyNotPass_35 : decode cX4_whyNotPass 35 = .ok (.ireturn, 1) := by decide +kernel
set_option maxRecDepth 20000 in
theorem ggX4_takes_X4_ofSender : GoodIn wsX4_takes wsX4_ofSender := goodIn_r _ [6, 1, 11, 12, 13, 14, 15, 16, 17, 18, 19, 20, 21, 22, 23, 24] (by decide +kernel) (by decide +kernel)
set_option maxRecDepth 20000 in
theorem gX4_takes_X4_ofSender : GoodIn wsX4_takes (wsV RX4 135 RX4 yX4_ofSender wsX4_ofSender) := goodIn_app (goodIn_of _ (by decide +kernel)) ggX4_takes_X4_ofSender
set_option maxRecDepth 20000 in
theorem ggX4_takes_X4_count : GoodIn wsX4_takes wsX4_count := goodIn_r _ [10, 1, 11, 12, 13, 14, 15, 16, 17, 18, 19, 20, 21, 22, 23, 24] (by decide +kernel) (by decide +kernel)
set_option maxRecDepth 20000 in
theorem gX4_takes_X4_count : GoodIn wsX4_takes (wsV RX4 118 RX4 yX4_count wsX4_count) := goodIn_app (goodIn_of _ (by decide +kernel)) ggX4_takes_X4_count
theorem dX4_takes_0 : decode cX4_takes 0 = .ok (.aload_n 0, 1) := by decide +kernel
theorem dX4_takes_1 : decode cX4_takes 1 = .ok (.iload_n 1, 1) := by decide +kernel
theorem dX4_takes_2 : decode cX4_takes 2 = .ok (.iconst 0, 1) := by decide +kernel
theorem dX4_takes_3 : decode cX4_takes 3 = .ok (.invokevirtual 135, 3) := by decide +kernel
theorem dX4_takes_6 : decode cX4_takes 6 = .ok (.istore_n 3, 1) := by decide +kernel
theorem dX4_takes_7 : decode cX4_takes 7 = .ok (.iload_n 2, 1) := by decide +kernel
theorem dX4_takes_8 : decode cX4_takes 8 = .ok (.aload_n 0, 1) := by decide +kernel
theorem dX4_takes_9 : decode cX4_takes 9 = .ok (.getfield 7, 3) := by decide +kernel
theorem dX4_takes_12 : decode cX4_takes 12 = .ok (.iconst 2, 1) := by decide +kernel
theorem dX4_takes_13 : decode cX4_takes 13 = .ok (.iaload, 1) := by decide +kernel
theorem dX4_takes_14 : decode cX4_takes 14 = .ok (.imul, 1) := by decide +kernel
theorem dX4_takes_15 : decode cX4_takes 15 = .ok (.iload_n 3, 1) := by decide +kernel
theorem dX4_takes_16 : decode cX4_takes 16 = .ok (.imul, 1) := by decide +kernel
theorem dX4_takes_17 : decode cX4_takes 17 = .ok (.istore 4, 2) := by decide +kernel
theorem dX4_takes_19 : decode cX4_takes 19 = .ok (.aload_n 0, 1) := by decide +kernel
theorem dX4_takes_20 : decode cX4_takes 20 = .ok (.iload_n 1, 1) := by decide +kernel
theorem dX4_takes_21 : decode cX4_takes 21 = .ok (.iconst 0, 1) := by decide +kernel
theorem dX4_takes_22 : decode cX4_takes 22 = .ok (.iload_n 3, 1) := by decide +kernel
theorem dX4_takes_23 : decode cX4_takes 23 = .ok (.ineg, 1) := by decide +kernel
theorem dX4_takes_24 : decode cX4_takes 24 = .ok (.invokevirtual 118, 3) := by decide +kernel
theorem dX4_takes_27 : decode cX4_takes 27 = .ok (.aload_n 0, 1) := by decide +kernel
theorem dX4_takes_28 : decode cX4_takes 28 = .ok (.iload_n 1, 1) := by decide +kernel
theorem dX4_takes_29 : decode cX4_takes 29 = .ok (.iconst 1, 1) := by decide +kernel
theorem dX4_takes_30 : decode cX4_takes 30 = .ok (.iload 4, 2) := by decide +kernel
theorem dX4_takes_32 : decode cX4_takes 32 = .ok (.invokevirtual 118, 3) := by decide +kernel
theorem dX4_takes_35 : decode cX4_takes 35 = .ok (.aload_n 0, 1) := by decide +kernel
theorem dX4_takes_36 : decode cX4_takes 36 = .ok (.iload_n 1, 1) := by decide +kernel
theorem dX4_takes_37 : decode cX4_takes 37 = .ok (.iconst 3, 1) := by decide +kernel
theorem dX4_takes_38 : decode cX4_takes 38 = .ok (.iload_n 3, 1) := by decide +kernel
theorem dX4_takes_39 : decode cX4_takes 39 = .ok (.invokevirtual 118, 3) := by decide +kernel
theorem dX4_takes_42 : decode cX4_takes 42 = .ok (.aload_n 0, 1) := by decide +kernel
theorem dX4_takes_43 : decode cX4_takes 43 = .ok (.getfield 7, 3) := by decide +kernel
theorem dX4_takes_46 : decode cX4_takes 46 = .ok (.bipush 9, 2) := by decide +kernel
theorem dX4_takes_48 : decode cX4_takes 48 = .ok (.dup2, 1) := by decide +kernel
theorem dX4_takes_49 : decode cX4_takes 49 = .ok (.iaload, 1) := by decide +kernel
theorem dX4_takes_50 : decode cX4_takes 50 = .ok (.iload_n 3, 1) := by decide +kernel
theorem dX4_takes_51 : decode cX4_takes 51 = .ok (.iadd, 1) := by decide +kernel
theorem dX4_takes_52 : decode cX4_takes 52 = .ok (.iastore, 1) := by decide +kernel
theorem dX4_takes_53 : decode cX4_takes 53 = .ok (.aload_n 0, 1) := by decide +kernel
theorem dX4_takes_54 : decode cX4_takes 54 = .ok (.getfield 7, 3) := by decide +kernel
theorem dX4_takes_57 : decode cX4_takes 57 = .ok (.bipush 11, 2) := by decide +kernel
theorem dX4_takes_59 : decode cX4_takes 59 = .ok (.dup2, 1) := by decide +kernel
theorem dX4_takes_60 : decode cX4_takes 60 = .ok (.iaload, 1) := by decide +kernel
theorem dX4_takes_61 : decode cX4_takes 61 = .ok (.iload 4, 2) := by decide +kernel
theorem dX4_takes_63 : decode cX4_takes 63 = .ok (.iadd, 1) := by decide +kernel
theorem dX4_takes_64 : decode cX4_takes 64 = .ok (.iastore, 1) := by decide +kernel
theorem dX4_takes_65 : decode cX4_takes 65 = .ok (.iload 4, 2) := by decide +kernel
theorem dX4_takes_67 : decode cX4_takes 67 = .ok (.ireturn, 1) := by decide +kernel
set_option maxRecDepth 20000 in
theorem ggX4_begins_X4_ofSender : GoodIn wsX4_begins wsX4_ofSender := goodIn_r _ [6, 1, 31, 32, 33, 34, 35, 36, 37, 38, 39, 40, 41, 42, 43, 44] (by decide +kernel) (by decide +kernel)
set_option maxRecDepth 20000 in
theorem gX4_begins_X4_ofSender : GoodIn wsX4_begins (wsV RX4 135 RX4 yX4_ofSender wsX4_ofSender) := goodIn_app (goodIn_of _ (by decide +kernel)) ggX4_begins_X4_ofSender
set_option maxRecDepth 20000 in
theorem ggX4_begins_X4_takes : GoodIn wsX4_begins wsX4_takes := goodIn_r _ [10, 1, 2, 3, 4, 5, 6, 11, 12, 13, 14, 31, 32, 33, 34, 35, 36, 37, 38, 39, 40, 41, 42, 43, 44] (by decide +kernel) (by decide +kernel)
set_option maxRecDepth 20000 in
theorem gX4_begins_X4_takes : GoodIn wsX4_begins (wsV RX4 150 RX4 yX4_takes wsX4_takes) := goodIn_app (goodIn_of _ (by decide +kernel)) ggX4_begins_X4_takes
set_option maxRecDepth 20000 in
theorem ggX4_begins_X4_isTaken : GoodIn wsX4_begins wsX4_isTaken := goodIn_r _ [18, 19, 20, 21, 5, 22, 1, 31, 32, 33, 34, 35, 36, 37, 38, 39, 40, 41, 42, 43, 44] (by decide +kernel) (by decide +kernel)
set_option maxRecDepth 20000 in
theorem gX4_begins_X4_isTaken : GoodIn wsX4_begins (wsV RX4 69 RX4 yX4_isTaken wsX4_isTaken) := goodIn_app (goodIn_of _ (by decide +kernel)) ggX4_begins_X4_isTaken
set_option maxRecDepth 20000 in
theorem ggX4_begins_X4_at : GoodIn wsX4_begins wsX4_at := goodIn_r _ [22, 1, 31, 32, 33, 34, 35, 36, 37, 38, 39, 40, 41, 42, 43, 44] (by decide +kernel) (by decide +kernel)
set_option maxRecDepth 20000 in
theorem gX4_begins_X4_at : GoodIn wsX4_begins (wsV RX4 58 RX4 yX4_at wsX4_at) := goodIn_app (goodIn_of _ (by decide +kernel)) ggX4_begins_X4_at
set_option maxRecDepth 20000 in
theorem ggX4_begins_X4_goesBack : GoodIn wsX4_begins wsX4_goesBack := goodIn_r _ [26, 19, 20, 21, 5, 22, 1, 11, 12, 13, 14, 27, 28, 29, 30, 2, 3, 4, 6, 31, 32, 33, 34, 35, 36, 37, 38, 39, 40, 41, 42, 43, 44] (by decide +kernel) (by decide +kernel)
set_option maxRecDepth 20000 in
theorem gX4_begins_X4_goesBack : GoodIn wsX4_begins (wsV RX4 141 RX4 yX4_goesBack wsX4_goesBack) := goodIn_app (goodIn_of _ (by decide +kernel)) ggX4_begins_X4_goesBack
theorem dX4_begins_0 : decode cX4_begins 0 = .ok (.aload_n 0, 1) := by decide +kernel
theorem dX4_begins_1 : decode cX4_begins 1 = .ok (.getfield 7, 3) := by decide +kernel
theorem dX4_begins_4 : decode cX4_begins 4 = .ok (.iconst 5, 1) := by decide +kernel
theorem dX4_begins_5 : decode cX4_begins 5 = .ok (.dup2, 1) := by decide +kernel
theorem dX4_begins_6 : decode cX4_begins 6 = .ok (.iaload, 1) := by decide +kernel
theorem dX4_begins_7 : decode cX4_begins 7 = .ok (.iconst 1, 1) := by decide +kernel
theorem dX4_begins_8 : decode cX4_begins 8 = .ok (.iadd, 1) := by decide +kernel
theorem dX4_begins_9 : decode cX4_begins 9 = .ok (.iastore, 1) := by decide +kernel
theorem dX4_begins_10 : decode cX4_begins 10 = .ok (.aload_n 0, 1) := by decide +kernel
theorem dX4_begins_11 : decode cX4_begins 11 = .ok (.getfield 7, 3) := by decide +kernel
theorem dX4_begins_14 : decode cX4_begins 14 = .ok (.bipush 6, 2) := by decide +kernel
theorem dX4_begins_16 : decode cX4_begins 16 = .ok (.iconst 0, 1) := by decide +kernel
theorem dX4_begins_17 : decode cX4_begins 17 = .ok (.iastore, 1) := by decide +kernel
theorem dX4_begins_18 : decode cX4_begins 18 = .ok (.iconst 0, 1) := by decide +kernel
theorem dX4_begins_19 : decode cX4_begins 19 = .ok (.istore_n 1, 1) := by decide +kernel
theorem dX4_begins_20 : decode cX4_begins 20 = .ok (.iload_n 1, 1) := by decide +kernel
theorem dX4_begins_21 : decode cX4_begins 21 = .ok (.bipush 10, 2) := by decide +kernel
theorem dX4_begins_23 : decode cX4_begins 23 = .ok (.if_icmp .ge 42, 3) := by decide +kernel
theorem dX4_begins_26 : decode cX4_begins 26 = .ok (.aload_n 0, 1) := by decide +kernel
theorem dX4_begins_27 : decode cX4_begins 27 = .ok (.getfield 7, 3) := by decide +kernel
theorem dX4_begins_30 : decode cX4_begins 30 = .ok (.iconst 5, 1) := by decide +kernel
theorem dX4_begins_31 : decode cX4_begins 31 = .ok (.iaload, 1) := by decide +kernel
theorem dX4_begins_32 : decode cX4_begins 32 = .ok (.iconst 3, 1) := by decide +kernel
theorem dX4_begins_33 : decode cX4_begins 33 = .ok (.irem, 1) := by decide +kernel
theorem dX4_begins_34 : decode cX4_begins 34 = .ok (.ifCond .ne 31, 3) := by decide +kernel
theorem dX4_begins_37 : decode cX4_begins 37 = .ok (.aload_n 0, 1) := by decide +kernel
theorem dX4_begins_38 : decode cX4_begins 38 = .ok (.iload_n 1, 1) := by decide +kernel
theorem dX4_begins_39 : decode cX4_begins 39 = .ok (.iconst 0, 1) := by decide +kernel
theorem dX4_begins_40 : decode cX4_begins 40 = .ok (.invokevirtual 135, 3) := by decide +kernel
theorem dX4_begins_43 : decode cX4_begins 43 = .ok (.aload_n 0, 1) := by decide +kernel
theorem dX4_begins_44 : decode cX4_begins 44 = .ok (.getfield 7, 3) := by decide +kernel
theorem dX4_begins_47 : decode cX4_begins 47 = .ok (.iconst 4, 1) := by decide +kernel
theorem dX4_begins_48 : decode cX4_begins 48 = .ok (.iaload, 1) := by decide +kernel
theorem dX4_begins_49 : decode cX4_begins 49 = .ok (.if_icmp .lt 10, 3) := by decide +kernel
theorem dX4_begins_52 : decode cX4_begins 52 = .ok (.aload_n 0, 1) := by decide +kernel
theorem dX4_begins_53 : decode cX4_begins 53 = .ok (.iload_n 1, 1) := by decide +kernel
theorem dX4_begins_54 : decode cX4_begins 54 = .ok (.iconst 4, 1) := by decide +kernel
theorem dX4_begins_55 : decode cX4_begins 55 = .ok (.invokevirtual 150, 3) := by decide +kernel
theorem dX4_begins_58 : decode cX4_begins 58 = .ok (.pop, 1) := by decide +kernel
theorem dX4_begins_59 : decode cX4_begins 59 = .ok (.iinc 1 1, 3) := by decide +kernel
theorem dX4_begins_62 : decode cX4_begins 62 = .ok (.goto (-42), 3) := by decide +kernel
theorem dX4_begins_65 : decode cX4_begins 65 = .ok (.iconst 0, 1) := by decide +kernel
theorem dX4_begins_66 : decode cX4_begins 66 = .ok (.istore_n 1, 1) := by decide +kernel
theorem dX4_begins_67 : decode cX4_begins 67 = .ok (.iconst 0, 1) := by decide +kernel
theorem dX4_begins_68 : decode cX4_begins 68 = .ok (.istore_n 2, 1) := by decide +kernel
theorem dX4_begins_69 : decode cX4_begins 69 = .ok (.iload_n 2, 1) := by decide +kernel
theorem dX4_begins_70 : decode cX4_begins 70 = .ok (.bipush 48, 2) := by decide +kernel
theorem dX4_begins_72 : decode cX4_begins 72 = .ok (.if_icmp .ge 66, 3) := by decide +kernel
theorem dX4_begins_75 : decode cX4_begins 75 = .ok (.aload_n 0, 1) := by decide +kernel
theorem dX4_begins_76 : decode cX4_begins 76 = .ok (.iload_n 2, 1) := by decide +kernel
theorem dX4_begins_77 : decode cX4_begins 77 = .ok (.invokevirtual 69, 3) := by decide +kernel
theorem dX4_begins_80 : decode cX4_begins 80 = .ok (.ifCond .eq 52, 3) := by decide +kernel
theorem dX4_begins_83 : decode cX4_begins 83 = .ok (.aload_n 0, 1) := by decide +kernel
theorem dX4_begins_84 : decode cX4_begins 84 = .ok (.getfield 7, 3) := by decide +kernel
theorem dX4_begins_87 : decode cX4_begins 87 = .ok (.iconst 5, 1) := by decide +kernel
theorem dX4_begins_88 : decode cX4_begins 88 = .ok (.iaload, 1) := by decide +kernel
theorem dX4_begins_89 : decode cX4_begins 89 = .ok (.aload_n 0, 1) := by decide +kernel
theorem dX4_begins_90 : decode cX4_begins 90 = .ok (.iload_n 2, 1) := by decide +kernel
theorem dX4_begins_91 : decode cX4_begins 91 = .ok (.iconst 2, 1) := by decide +kernel
theorem dX4_begins_92 : decode cX4_begins 92 = .ok (.invokevirtual 58, 3) := by decide +kernel
theorem dX4_begins_95 : decode cX4_begins 95 = .ok (.isub, 1) := by decide +kernel
theorem dX4_begins_96 : decode cX4_begins 96 = .ok (.aload_n 0, 1) := by decide +kernel
theorem dX4_begins_97 : decode cX4_begins 97 = .ok (.getfield 7, 3) := by decide +kernel
theorem dX4_begins_100 : decode cX4_begins 100 = .ok (.iconst 3, 1) := by decide +kernel
theorem dX4_begins_101 : decode cX4_begins 101 = .ok (.iaload, 1) := by decide +kernel
theorem dX4_begins_102 : decode cX4_begins 102 = .ok (.if_icmp .le 30, 3) := by decide +kernel
theorem dX4_begins_105 : decode cX4_begins 105 = .ok (.aload_n 0, 1) := by decide +kernel
theorem dX4_begins_106 : decode cX4_begins 106 = .ok (.aload_n 0, 1) := by decide +kernel
theorem dX4_begins_107 : decode cX4_begins 107 = .ok (.iload_n 2, 1) := by decide +kernel
theorem dX4_begins_108 : decode cX4_begins 108 = .ok (.iconst 0, 1) := by decide +kernel
theorem dX4_begins_109 : decode cX4_begins 109 = .ok (.invokevirtual 58, 3) := by decide +kernel
theorem dX4_begins_112 : decode cX4_begins 112 = .ok (.iconst 1, 1) := by decide +kernel
theorem dX4_begins_113 : decode cX4_begins 113 = .ok (.isub, 1) := by decide +kernel
theorem dX4_begins_114 : decode cX4_begins 114 = .ok (.iconst 0, 1) := by decide +kernel
theorem dX4_begins_115 : decode cX4_begins 115 = .ok (.invokevirtual 135, 3) := by decide +kernel
theorem dX4_begins_118 : decode cX4_begins 118 = .ok (.bipush 9, 2) := by decide +kernel
theorem dX4_begins_120 : decode cX4_begins 120 = .ok (.if_icmp .ge 12, 3) := by decide +kernel
theorem dX4_begins_123 : decode cX4_begins 123 = .ok (.aload_n 0, 1) := by decide +kernel
theorem dX4_begins_124 : decode cX4_begins 124 = .ok (.iload_n 2, 1) := by decide +kernel
theorem dX4_begins_125 : decode cX4_begins 125 = .ok (.invokevirtual 141, 3) := by decide +kernel
theorem dX4_begins_128 : decode cX4_begins 128 = .ok (.pop, 1) := by decide +kernel
theorem dX4_begins_129 : decode cX4_begins 129 = .ok (.iinc 1 1, 3) := by decide +kernel
theorem dX4_begins_132 : decode cX4_begins 132 = .ok (.iinc 2 1, 3) := by decide +kernel
theorem dX4_begins_135 : decode cX4_begins 135 = .ok (.goto (-66), 3) := by decide +kernel
theorem dX4_begins_138 : decode cX4_begins 138 = .ok (.iload_n 1, 1) := by decide +kernel
theorem dX4_begins_139 : decode cX4_begins 139 = .ok (.ireturn, 1) := by decide +kernel
set_option maxRecDepth 20000 in
theorem ggX4_passes_X4_begins : GoodIn wsX4_passes wsX4_begins := goodIn_r _ [5, 6, 7, 8, 9, 4, 10, 11, 12, 13, 14, 15, 16, 17, 18, 19, 20, 21, 22, 23, 24, 25, 26, 27, 28, 29, 30, 31, 32, 33, 34, 35, 36, 37, 38, 39, 40, 41, 42, 43, 44, 45, 46, 47, 48] (by decide +kernel) (by decide +kernel)
set_option maxRecDepth 20000 in
theorem gX4_passes_X4_begins : GoodIn wsX4_passes (wsV RX4 153 RX4 yX4_begins wsX4_begins) := goodIn_app (goodIn_of _ (by decide +kernel)) ggX4_passes_X4_begins
theorem dX4_passes_0 : decode cX4_passes 0 = .ok (.iconst 0, 1) := by decide +kernel
theorem dX4_passes_1 : decode cX4_passes 1 = .ok (.istore_n 2, 1) := by decide +kernel
theorem dX4_passes_2 : decode cX4_passes 2 = .ok (.iconst 0, 1) := by decide +kernel
theorem dX4_passes_3 : decode cX4_passes 3 = .ok (.istore_n 3, 1) := by decide +kernel
theorem dX4_passes_4 : decode cX4_passes 4 = .ok (.iload_n 3, 1) := by decide +kernel
theorem dX4_passes_5 : decode cX4_passes 5 = .ok (.iload_n 1, 1) := by decide +kernel
theorem dX4_passes_6 : decode cX4_passes 6 = .ok (.if_icmp .ge 16, 3) := by decide +kernel
theorem dX4_passes_9 : decode cX4_passes 9 = .ok (.iload_n 2, 1) := by decide +kernel
theorem dX4_passes_10 : decode cX4_passes 10 = .ok (.aload_n 0, 1) := by decide +kernel
theorem dX4_passes_11 : decode cX4_passes 11 = .ok (.invokevirtual 153, 3) := by decide +kernel
theorem dX4_passes_14 : decode cX4_passes 14 = .ok (.iadd, 1) := by decide +kernel
theorem dX4_passes_15 : decode cX4_passes 15 = .ok (.istore_n 2, 1) := by decide +kernel
theorem dX4_passes_16 : decode cX4_passes 16 = .ok (.iinc 3 1, 3) := by decide +kernel
theorem dX4_passes_19 : decode cX4_passes 19 = .ok (.goto (-15), 3) := by decide +kernel
theorem dX4_passes_22 : decode cX4_passes 22 = .ok (.iload_n 2, 1) := by decide +kernel
theorem dX4_passes_23 : decode cX4_passes 23 = .ok (.ireturn, 1) := by decide +kernel
set_option maxRecDepth 20000 in
theorem ggX4_pass_X4_whyNotPass : GoodIn wsX4_pass wsX4_whyNotPass := goodIn_r _ [5, 6, 7, 8, 4, 9, 52, 53, 54, 55, 56, 57, 58, 59, 60, 61, 62, 63, 64, 65] (by decide +kernel) (by decide +kernel)
set_option maxRecDepth 20000 in
theorem gX4_pass_X4_whyNotPass : GoodIn wsX4_pass (wsV RX4 156 RX4 yX4_whyNotPass wsX4_whyNotPass) := goodIn_app (goodIn_of _ (by decide +kernel)) ggX4_pass_X4_whyNotPass
set_option maxRecDepth 20000 in
theorem ggX4_pass_X4_record : GoodIn wsX4_pass wsX4_record := goodIn_r _ [13, 14, 15, 6, 52, 53, 54, 55, 56, 57, 58, 59, 60, 61, 62, 63, 64, 65] (by decide +kernel) (by decide +kernel)
set_option maxRecDepth 20000 in
theorem gX4_pass_X4_record : GoodIn wsX4_pass (wsV RX4 47 RX4 yX4_record wsX4_record) := goodIn_app (goodIn_of _ (by decide +kernel)) ggX4_pass_X4_record
set_option maxRecDepth 20000 in
theorem ggX4_pass_X4_passes : GoodIn wsX4_pass wsX4_passes := goodIn_r _ [19, 20, 21, 22, 4, 23, 6, 24, 25, 26, 27, 28, 29, 30, 31, 32, 33, 34, 35, 36, 37, 38, 39, 40, 41, 42, 43, 44, 45, 46, 47, 48, 49, 50, 51, 52, 53, 54, 55, 56, 57, 58, 59, 60, 61, 62, 63, 64, 65] (by decide +kernel) (by decide +kernel)
set_option maxRecDepth 20000 in
theorem gX4_pass_X4_passes : GoodIn wsX4_pass (wsV RX4 159 RX4 yX4_passes wsX4_passes) := goodIn_app (goodIn_of _ (by decide +kernel)) ggX4_pass_X4_passes
theorem dX4_pass_0 : decode cX4_pass 0 = .ok (.aload_n 0, 1) := by decide +kernel
theorem dX4_pass_1 : decode cX4_pass 1 = .ok (.iload_n 1, 1) := by decide +kernel
theorem dX4_pass_2 : decode cX4_pass 2 = .ok (.invokevirtual 156, 3) := by decide +kernel
theorem dX4_pass_5 : decode cX4_pass 5 = .ok (.istore_n 2, 1) := by decide +kernel
theorem dX4_pass_6 : decode cX4_pass 6 = .ok (.iload_n 2, 1) := by decide +kernel
theorem dX4_pass_7 : decode cX4_pass 7 = .ok (.ifCond .ge 5, 3) := by decide +kernel
theorem dX4_pass_10 : decode cX4_pass 10 = .ok (.iload_n 2, 1) := by decide +kernel
theorem dX4_pass_11 : decode cX4_pass 11 = .ok (.ireturn, 1) := by decide +kernel
theorem dX4_pass_12 : decode cX4_pass 12 = .ok (.aload_n 0, 1) := by decide +kernel
theorem dX4_pass_13 : decode cX4_pass 13 = .ok (.invokevirtual 47, 3) := by decide +kernel
theorem dX4_pass_16 : decode cX4_pass 16 = .ok (.aload_n 0, 1) := by decide +kernel
theorem dX4_pass_17 : decode cX4_pass 17 = .ok (.iload_n 1, 1) := by decide +kernel
theorem dX4_pass_18 : decode cX4_pass 18 = .ok (.invokevirtual 159, 3) := by decide +kernel
theorem dX4_pass_21 : decode cX4_pass 21 = .ok (.ireturn, 1) := by decide +kernel
set_option maxRecDepth 20000 in
theorem ggX4_call_X4_isSender : GoodIn wsX4_call wsX4_isSender := goodIn_r _ [4, 5, 6, 3, 7] (by decide +kernel) (by decide +kernel)
set_option maxRecDepth 20000 in
theorem gX4_call_X4_isSender : GoodIn wsX4_call (va_wsS RX4 86 yX4_isSender wsX4_isSender) := goodIn_app (goodIn_of _ (by decide +kernel)) ggX4_call_X4_isSender
set_option maxRecDepth 20000 in
theorem ggX4_call_X4_ofSender : GoodIn wsX4_call wsX4_ofSender := goodIn_r _ [11, 12, 27, 28, 29, 30, 31, 32, 33, 34, 35, 36, 37, 38, 39, 40] (by decide +kernel) (by decide +kernel)
set_option maxRecDepth 20000 in
theorem gX4_call_X4_ofSender : GoodIn wsX4_call (wsV RX4 135 RX4 yX4_ofSender wsX4_ofSender) := goodIn_app (goodIn_of _ (by decide +kernel)) ggX4_call_X4_ofSender
set_option maxRecDepth 20000 in
theorem ggX4_call_X4_record : GoodIn wsX4_call wsX4_record := goodIn_r _ [16, 17, 18, 12, 27, 28, 29, 30, 31, 32, 33, 34, 35, 36, 37, 38, 39, 40] (by decide +kernel) (by decide +kernel)
set_option maxRecDepth 20000 in
theorem gX4_call_X4_record : GoodIn wsX4_call (wsV RX4 47 RX4 yX4_record wsX4_record) := goodIn_app (goodIn_of _ (by decide +kernel)) ggX4_call_X4_record
set_option maxRecDepth 20000 in
theorem ggX4_call_X4_takes : GoodIn wsX4_call wsX4_takes := goodIn_r _ [22, 12, 8, 9, 10, 3, 11, 23, 24, 25, 26, 27, 28, 29, 30, 31, 32, 33, 34, 35, 36, 37, 38, 39, 40] (by decide +kernel) (by decide +kernel)
set_option maxRecDepth 20000 in
theorem gX4_call_X4_takes : GoodIn wsX4_call (wsV RX4 150 RX4 yX4_takes wsX4_takes) := goodIn_app (goodIn_of _ (by decide +kernel)) ggX4_call_X4_takes
theorem dX4_call_0 : decode cX4_call 0 = .ok (.iload_n 1, 1) := by decide +kernel
theorem dX4_call_1 : decode cX4_call 1 = .ok (.invokestatic 86, 3) := by decide +kernel
theorem dX4_call_4 : decode cX4_call 4 = .ok (.ifCond .ne 5, 3) := by decide +kernel
theorem dX4_call_7 : decode cX4_call 7 = .ok (.iconst (-1), 1) := by decide +kernel
theorem dX4_call_8 : decode cX4_call 8 = .ok (.ireturn, 1) := by decide +kernel
theorem dX4_call_9 : decode cX4_call 9 = .ok (.aload_n 0, 1) := by decide +kernel
theorem dX4_call_10 : decode cX4_call 10 = .ok (.iload_n 1, 1) := by decide +kernel
theorem dX4_call_11 : decode cX4_call 11 = .ok (.iconst 0, 1) := by decide +kernel
theorem dX4_call_12 : decode cX4_call 12 = .ok (.invokevirtual 135, 3) := by decide +kernel
theorem dX4_call_15 : decode cX4_call 15 = .ok (.ifCond .ne 6, 3) := by decide +kernel
theorem dX4_call_18 : decode cX4_call 18 = .ok (.bipush (-3), 2) := by decide +kernel
theorem dX4_call_20 : decode cX4_call 20 = .ok (.ireturn, 1) := by decide +kernel
theorem dX4_call_21 : decode cX4_call 21 = .ok (.aload_n 0, 1) := by decide +kernel
theorem dX4_call_22 : decode cX4_call 22 = .ok (.invokevirtual 47, 3) := by decide +kernel
theorem dX4_call_25 : decode cX4_call 25 = .ok (.aload_n 0, 1) := by decide +kernel
theorem dX4_call_26 : decode cX4_call 26 = .ok (.iload_n 1, 1) := by decide +kernel
theorem dX4_call_27 : decode cX4_call 27 = .ok (.bipush 6, 2) := by decide +kernel
theorem dX4_call_29 : decode cX4_call 29 = .ok (.invokevirtual 150, 3) := by decide +kernel
theorem dX4_call_32 : decode cX4_call 32 = .ok (.ireturn, 1) := by decide +kernel
theorem dX4_day_0 : decode cX4_day 0 = .ok (.aload_n 0, 1) := by decide +kernel
theorem dX4_day_1 : decode cX4_day 1 = .ok (.getfield 7, 3) := by decide +kernel
theorem dX4_day_4 : decode cX4_day 4 = .ok (.iconst 5, 1) := by decide +kernel
theorem dX4_day_5 : decode cX4_day 5 = .ok (.iaload, 1) := by decide +kernel
theorem dX4_day_6 : decode cX4_day 6 = .ok (.ireturn, 1) := by decide +kernel
set_option maxRecDepth 20000 in
theorem ggX4_parcel_X4_placeBy : GoodIn wsX4_parcel wsX4_placeBy := goodIn_r _ [6, 7, 8, 5, 9, 10, 11, 12, 13, 14, 15, 16, 17, 18, 19, 20, 21, 22, 23, 1, 28, 29, 30, 31, 32, 33, 34, 35, 36, 37, 38, 39, 40, 41] (by decide +kernel) (by decide +kernel)
set_option maxRecDepth 20000 in
theorem gX4_parcel_X4_placeBy : GoodIn wsX4_parcel (wsV RX4 112 RX4 yX4_placeBy wsX4_placeBy) := goodIn_app (goodIn_of _ (by decide +kernel)) ggX4_parcel_X4_placeBy
set_option maxRecDepth 20000 in
theorem ggX4_parcel_X4_at : GoodIn wsX4_parcel wsX4_at := goodIn_r _ [23, 1, 28, 29, 30, 31, 32, 33, 34, 35, 36, 37, 38, 39, 40, 41] (by decide +kernel) (by decide +kernel)
set_option maxRecDepth 20000 in
theorem gX4_parcel_X4_at : GoodIn wsX4_parcel (wsV RX4 58 RX4 yX4_at wsX4_at) := goodIn_app (goodIn_of _ (by decide +kernel)) ggX4_parcel_X4_at
set_option maxRecDepth 20000 in
theorem ggX4_parcel_X4_feeOn : GoodIn wsX4_parcel wsX4_feeOn := goodIn_r _ [27, 1, 20, 21, 22, 5, 23, 28, 29, 30, 31, 32, 33, 34, 35, 36, 37, 38, 39, 40, 41] (by decide +kernel) (by decide +kernel)
set_option maxRecDepth 20000 in
theorem gX4_parcel_X4_feeOn : GoodIn wsX4_parcel (wsV RX4 115 RX4 yX4_feeOn wsX4_feeOn) := goodIn_app (goodIn_of _ (by decide +kernel)) ggX4_parcel_X4_feeOn
theorem dX4_parcel_0 : decode cX4_parcel 0 = .ok (.aload_n 0, 1) := by decide +kernel
theorem dX4_parcel_1 : decode cX4_parcel 1 = .ok (.iload_n 1, 1) := by decide +kernel
theorem dX4_parcel_2 : decode cX4_parcel 2 = .ok (.invokevirtual 112, 3) := by decide +kernel
theorem dX4_parcel_5 : decode cX4_parcel 5 = .ok (.istore_n 3, 1) := by decide +kernel
theorem dX4_parcel_6 : decode cX4_parcel 6 = .ok (.iload_n 3, 1) := by decide +kernel
theorem dX4_parcel_7 : decode cX4_parcel 7 = .ok (.bipush (-6), 2) := by decide +kernel
theorem dX4_parcel_9 : decode cX4_parcel 9 = .ok (.if_icmp .ne 5, 3) := by decide +kernel
theorem dX4_parcel_12 : decode cX4_parcel 12 = .ok (.iconst (-1), 1) := by decide +kernel
theorem dX4_parcel_13 : decode cX4_parcel 13 = .ok (.ireturn, 1) := by decide +kernel
theorem dX4_parcel_14 : decode cX4_parcel 14 = .ok (.iload_n 2, 1) := by decide +kernel
theorem dX4_parcel_15 : decode cX4_parcel 15 = .ok (.tableswitch 75 0 5 #[37, 46, 46, 53, 58, 63], 37) := by decide +kernel
theorem dX4_parcel_52 : decode cX4_parcel 52 = .ok (.aload_n 0, 1) := by decide +kernel
theorem dX4_parcel_53 : decode cX4_parcel 53 = .ok (.iload_n 3, 1) := by decide +kernel
theorem dX4_parcel_54 : decode cX4_parcel 54 = .ok (.iconst 0, 1) := by decide +kernel
theorem dX4_parcel_55 : decode cX4_parcel 55 = .ok (.invokevirtual 58, 3) := by decide +kernel
theorem dX4_parcel_58 : decode cX4_parcel 58 = .ok (.iconst 1, 1) := by decide +kernel
theorem dX4_parcel_59 : decode cX4_parcel 59 = .ok (.isub, 1) := by decide +kernel
theorem dX4_parcel_60 : decode cX4_parcel 60 = .ok (.ireturn, 1) := by decide +kernel
theorem dX4_parcel_61 : decode cX4_parcel 61 = .ok (.aload_n 0, 1) := by decide +kernel
theorem dX4_parcel_62 : decode cX4_parcel 62 = .ok (.iload_n 3, 1) := by decide +kernel
theorem dX4_parcel_63 : decode cX4_parcel 63 = .ok (.iload_n 2, 1) := by decide +kernel
theorem dX4_parcel_64 : decode cX4_parcel 64 = .ok (.invokevirtual 58, 3) := by decide +kernel
theorem dX4_parcel_67 : decode cX4_parcel 67 = .ok (.ireturn, 1) := by decide +kernel
theorem dX4_parcel_68 : decode cX4_parcel 68 = .ok (.iload_n 3, 1) := by decide +kernel
theorem dX4_parcel_69 : decode cX4_parcel 69 = .ok (.bipush 8, 2) := by decide +kernel
theorem dX4_parcel_71 : decode cX4_parcel 71 = .ok (.idiv, 1) := by decide +kernel
theorem dX4_parcel_72 : decode cX4_parcel 72 = .ok (.ireturn, 1) := by decide +kernel
theorem dX4_parcel_73 : decode cX4_parcel 73 = .ok (.iload_n 3, 1) := by decide +kernel
theorem dX4_parcel_74 : decode cX4_parcel 74 = .ok (.bipush 8, 2) := by decide +kernel
theorem dX4_parcel_76 : decode cX4_parcel 76 = .ok (.irem, 1) := by decide +kernel
theorem dX4_parcel_77 : decode cX4_parcel 77 = .ok (.ireturn, 1) := by decide +kernel
theorem dX4_parcel_78 : decode cX4_parcel 78 = .ok (.aload_n 0, 1) := by decide +kernel
theorem dX4_parcel_79 : decode cX4_parcel 79 = .ok (.iload_n 3, 1) := by decide +kernel
theorem dX4_parcel_80 : decode cX4_parcel 80 = .ok (.aload_n 0, 1) := by decide +kernel
theorem dX4_parcel_81 : decode cX4_parcel 81 = .ok (.getfield 7, 3) := by decide +kernel
theorem dX4_parcel_84 : decode cX4_parcel 84 = .ok (.iconst 5, 1) := by decide +kernel
theorem dX4_parcel_85 : decode cX4_parcel 85 = .ok (.iaload, 1) := by decide +kernel
theorem dX4_parcel_86 : decode cX4_parcel 86 = .ok (.invokevirtual 115, 3) := by decide +kernel
theorem dX4_parcel_89 : decode cX4_parcel 89 = .ok (.ireturn, 1) := by decide +kernel
theorem dX4_parcel_90 : decode cX4_parcel 90 = .ok (.bipush (-2), 2) := by decide +kernel
theorem dX4_parcel_92 : decode cX4_parcel 92 = .ok (.ireturn, 1) := by decide +kernel
set_option maxRecDepth 20000 in
theorem ggX4_isPlace_X4_in : GoodIn wsX4_isPlace wsX4_in := goodIn_r _ [4] (by decide +kernel) (by decide +kernel)
set_option maxRecDepth 20000 in
theorem gX4_isPlace_X4_in : GoodIn wsX4_isPlace (va_wsS RX4 50 yX4_in wsX4_in) := goodIn_app (goodIn_of _ (by decide +kernel)) ggX4_isPlace_X4_in
theorem dX4_isPlace_0 : decode cX4_isPlace 0 = .ok (.iload_n 0, 1) := by decide +kernel
theorem dX4_isPlace_1 : decode cX4_isPlace 1 = .ok (.iconst 0, 1) := by decide +kernel
theorem dX4_isPlace_2 : decode cX4_isPlace 2 = .ok (.iconst 5, 1) := by decide +kernel
theorem dX4_isPlace_3 : decode cX4_isPlace 3 = .ok (.invokestatic 50, 3) := by decide +kernel
theorem dX4_isPlace_6 : decode cX4_isPlace 6 = .ok (.ifCond .eq 17, 3) := by decide +kernel
theorem dX4_isPlace_9 : decode cX4_isPlace 9 = .ok (.iload_n 1, 1) := by decide +kernel
theorem dX4_isPlace_10 : decode cX4_isPlace 10 = .ok (.iconst 0, 1) := by decide +kernel
theorem dX4_isPlace_11 : decode cX4_isPlace 11 = .ok (.bipush 7, 2) := by decide +kernel
theorem dX4_isPlace_13 : decode cX4_isPlace 13 = .ok (.invokestatic 50, 3) := by decide +kernel
theorem dX4_isPlace_16 : decode cX4_isPlace 16 = .ok (.ifCond .eq 7, 3) := by decide +kernel
theorem dX4_isPlace_19 : decode cX4_isPlace 19 = .ok (.iconst 1, 1) := by decide +kernel
theorem dX4_isPlace_20 : decode cX4_isPlace 20 = .ok (.goto 4, 3) := by decide +kernel
theorem dX4_isPlace_23 : decode cX4_isPlace 23 = .ok (.iconst 0, 1) := by decide +kernel
theorem dX4_isPlace_24 : decode cX4_isPlace 24 = .ok (.ireturn, 1) := by decide +kernel
set_option maxRecDepth 20000 in
theorem ggX4_codeAt_X4_isPlace : GoodIn wsX4_codeAt wsX4_isPlace := goodIn_r _ [4, 5, 6, 3, 7] (by decide +kernel) (by decide +kernel)
set_option maxRecDepth 20000 in
theorem gX4_codeAt_X4_isPlace : GoodIn wsX4_codeAt (va_wsS RX4 162 yX4_isPlace wsX4_isPlace) := goodIn_app (goodIn_of _ (by decide +kernel)) ggX4_codeAt_X4_isPlace
set_option maxRecDepth 20000 in
theorem ggX4_codeAt_X4_isTaken : GoodIn wsX4_codeAt wsX4_isTaken := goodIn_r _ [11, 12, 13, 14, 3, 15, 16, 24, 25, 26, 27, 28, 29, 30, 31, 32, 33, 34, 35, 36, 37] (by decide +kernel) (by decide +kernel)
set_option maxRecDepth 20000 in
theorem gX4_codeAt_X4_isTaken : GoodIn wsX4_codeAt (wsV RX4 69 RX4 yX4_isTaken wsX4_isTaken) := goodIn_app (goodIn_of _ (by decide +kernel)) ggX4_codeAt_X4_isTaken
set_option maxRecDepth 20000 in
theorem ggX4_codeAt_X4_codeOn : GoodIn wsX4_codeAt wsX4_codeOn := goodIn_r _ [20, 12, 13, 14, 3, 15, 16, 21, 22, 23, 24, 25, 26, 27, 28, 29, 30, 31, 32, 33, 34, 35, 36, 37] (by decide +kernel) (by decide +kernel)
set_option maxRecDepth 20000 in
theorem gX4_codeAt_X4_codeOn : GoodIn wsX4_codeAt (wsV RX4 99 RX4 yX4_codeOn wsX4_codeOn) := goodIn_app (goodIn_of _ (by decide +kernel)) ggX4_codeAt_X4_codeOn
theorem dX4_codeAt_0 : decode cX4_codeAt 0 = .ok (.iload_n 1, 1) := by decide +kernel
theorem dX4_codeAt_1 : decode cX4_codeAt 1 = .ok (.iload_n 2, 1) := by decide +kernel
theorem dX4_codeAt_2 : decode cX4_codeAt 2 = .ok (.invokestatic 162, 3) := by decide +kernel
theorem dX4_codeAt_5 : decode cX4_codeAt 5 = .ok (.ifCond .ne 5, 3) := by decide +kernel
theorem dX4_codeAt_8 : decode cX4_codeAt 8 = .ok (.iconst (-1), 1) := by decide +kernel
theorem dX4_codeAt_9 : decode cX4_codeAt 9 = .ok (.ireturn, 1) := by decide +kernel
theorem dX4_codeAt_10 : decode cX4_codeAt 10 = .ok (.aload_n 0, 1) := by decide +kernel
theorem dX4_codeAt_11 : decode cX4_codeAt 11 = .ok (.bipush 8, 2) := by decide +kernel
theorem dX4_codeAt_13 : decode cX4_codeAt 13 = .ok (.iload_n 1, 1) := by decide +kernel
theorem dX4_codeAt_14 : decode cX4_codeAt 14 = .ok (.imul, 1) := by decide +kernel
theorem dX4_codeAt_15 : decode cX4_codeAt 15 = .ok (.iload_n 2, 1) := by decide +kernel
theorem dX4_codeAt_16 : decode cX4_codeAt 16 = .ok (.iadd, 1) := by decide +kernel
theorem dX4_codeAt_17 : decode cX4_codeAt 17 = .ok (.invokevirtual 69, 3) := by decide +kernel
theorem dX4_codeAt_20 : decode cX4_codeAt 20 = .ok (.ifCond .eq 16, 3) := by decide +kernel
theorem dX4_codeAt_23 : decode cX4_codeAt 23 = .ok (.aload_n 0, 1) := by decide +kernel
theorem dX4_codeAt_24 : decode cX4_codeAt 24 = .ok (.bipush 8, 2) := by decide +kernel
theorem dX4_codeAt_26 : decode cX4_codeAt 26 = .ok (.iload_n 1, 1) := by decide +kernel
theorem dX4_codeAt_27 : decode cX4_codeAt 27 = .ok (.imul, 1) := by decide +kernel
theorem dX4_codeAt_28 : decode cX4_codeAt 28 = .ok (.iload_n 2, 1) := by decide +kernel
theorem dX4_codeAt_29 : decode cX4_codeAt 29 = .ok (.iadd, 1) := by decide +kernel
theorem dX4_codeAt_30 : decode cX4_codeAt 30 = .ok (.invokevirtual 99, 3) := by decide +kernel
theorem dX4_codeAt_33 : decode cX4_codeAt 33 = .ok (.goto 5, 3) := by decide +kernel
theorem dX4_codeAt_36 : decode cX4_codeAt 36 = .ok (.bipush (-6), 2) := by decide +kernel
theorem dX4_codeAt_38 : decode cX4_codeAt 38 = .ok (.ireturn, 1) := by decide +kernel
set_option maxRecDepth 20000 in
theorem ggX4_shelf_X4_in : GoodIn wsX4_shelf wsX4_in := goodIn_r _ [4] (by decide +kernel) (by decide +kernel)
set_option maxRecDepth 20000 in
theorem gX4_shelf_X4_in : GoodIn wsX4_shelf (va_wsS RX4 50 yX4_in wsX4_in) := goodIn_app (goodIn_of _ (by decide +kernel)) ggX4_shelf_X4_in
set_option maxRecDepth 20000 in
theorem ggX4_shelf_X4_isTaken : GoodIn wsX4_shelf wsX4_isTaken := goodIn_r _ [8, 9, 10, 11, 3, 12, 13, 25, 26, 27, 28, 29, 30, 31, 32, 33, 34, 35, 36, 37, 38] (by decide +kernel) (by decide +kernel)
set_option maxRecDepth 20000 in
theorem gX4_shelf_X4_isTaken : GoodIn wsX4_shelf (wsV RX4 69 RX4 yX4_isTaken wsX4_isTaken) := goodIn_app (goodIn_of _ (by decide +kernel)) ggX4_shelf_X4_isTaken
set_option maxRecDepth 20000 in
theorem ggX4_shelf_X4_rests : GoodIn wsX4_shelf wsX4_rests := goodIn_r _ [17, 13, 18, 19, 3, 20, 21, 22, 23, 24, 25, 26, 27, 28, 29, 30, 31, 32, 33, 34, 35, 36, 37, 38] (by decide +kernel) (by decide +kernel)
set_option maxRecDepth 20000 in
theorem gX4_shelf_X4_rests : GoodIn wsX4_shelf (wsV RX4 79 RX4 yX4_rests wsX4_rests) := goodIn_app (goodIn_of _ (by decide +kernel)) ggX4_shelf_X4_rests
theorem dX4_shelf_0 : decode cX4_shelf 0 = .ok (.iload_n 1, 1) := by decide +kernel
theorem dX4_shelf_1 : decode cX4_shelf 1 = .ok (.iconst 0, 1) := by decide +kernel
theorem dX4_shelf_2 : decode cX4_shelf 2 = .ok (.iconst 5, 1) := by decide +kernel
theorem dX4_shelf_3 : decode cX4_shelf 3 = .ok (.invokestatic 50, 3) := by decide +kernel
theorem dX4_shelf_6 : decode cX4_shelf 6 = .ok (.ifCond .ne 5, 3) := by decide +kernel
theorem dX4_shelf_9 : decode cX4_shelf 9 = .ok (.iconst (-1), 1) := by decide +kernel
theorem dX4_shelf_10 : decode cX4_shelf 10 = .ok (.ireturn, 1) := by decide +kernel
theorem dX4_shelf_11 : decode cX4_shelf 11 = .ok (.iload_n 2, 1) := by decide +kernel
theorem dX4_shelf_12 : decode cX4_shelf 12 = .ok (.iconst 0, 1) := by decide +kernel
theorem dX4_shelf_13 : decode cX4_shelf 13 = .ok (.iconst 2, 1) := by decide +kernel
theorem dX4_shelf_14 : decode cX4_shelf 14 = .ok (.invokestatic 50, 3) := by decide +kernel
theorem dX4_shelf_17 : decode cX4_shelf 17 = .ok (.ifCond .ne 6, 3) := by decide +kernel
theorem dX4_shelf_20 : decode cX4_shelf 20 = .ok (.bipush (-2), 2) := by decide +kernel
theorem dX4_shelf_22 : decode cX4_shelf 22 = .ok (.ireturn, 1) := by decide +kernel
theorem dX4_shelf_23 : decode cX4_shelf 23 = .ok (.iconst 0, 1) := by decide +kernel
theorem dX4_shelf_24 : decode cX4_shelf 24 = .ok (.istore_n 3, 1) := by decide +kernel
theorem dX4_shelf_25 : decode cX4_shelf 25 = .ok (.iconst 0, 1) := by decide +kernel
theorem dX4_shelf_26 : decode cX4_shelf 26 = .ok (.istore 4, 2) := by decide +kernel
theorem dX4_shelf_28 : decode cX4_shelf 28 = .ok (.bipush 8, 2) := by decide +kernel
theorem dX4_shelf_30 : decode cX4_shelf 30 = .ok (.iload_n 1, 1) := by decide +kernel
theorem dX4_shelf_31 : decode cX4_shelf 31 = .ok (.imul, 1) := by decide +kernel
theorem dX4_shelf_32 : decode cX4_shelf 32 = .ok (.istore 5, 2) := by decide +kernel
theorem dX4_shelf_34 : decode cX4_shelf 34 = .ok (.iload 5, 2) := by decide +kernel
theorem dX4_shelf_36 : decode cX4_shelf 36 = .ok (.bipush 8, 2) := by decide +kernel
theorem dX4_shelf_38 : decode cX4_shelf 38 = .ok (.iload_n 1, 1) := by decide +kernel
theorem dX4_shelf_39 : decode cX4_shelf 39 = .ok (.iconst 1, 1) := by decide +kernel
theorem dX4_shelf_40 : decode cX4_shelf 40 = .ok (.iadd, 1) := by decide +kernel
theorem dX4_shelf_41 : decode cX4_shelf 41 = .ok (.imul, 1) := by decide +kernel
theorem dX4_shelf_42 : decode cX4_shelf 42 = .ok (.if_icmp .ge 54, 3) := by decide +kernel
theorem dX4_shelf_45 : decode cX4_shelf 45 = .ok (.iload_n 3, 1) := by decide +kernel
theorem dX4_shelf_46 : decode cX4_shelf 46 = .ok (.aload_n 0, 1) := by decide +kernel
theorem dX4_shelf_47 : decode cX4_shelf 47 = .ok (.iload 5, 2) := by decide +kernel
theorem dX4_shelf_49 : decode cX4_shelf 49 = .ok (.invokevirtual 69, 3) := by decide +kernel
theorem dX4_shelf_52 : decode cX4_shelf 52 = .ok (.ifCond .eq 7, 3) := by decide +kernel
theorem dX4_shelf_55 : decode cX4_shelf 55 = .ok (.iconst 1, 1) := by decide +kernel
theorem dX4_shelf_56 : decode cX4_shelf 56 = .ok (.goto 4, 3) := by decide +kernel
theorem dX4_shelf_59 : decode cX4_shelf 59 = .ok (.iconst 0, 1) := by decide +kernel
theorem dX4_shelf_60 : decode cX4_shelf 60 = .ok (.iadd, 1) := by decide +kernel
theorem dX4_shelf_61 : decode cX4_shelf 61 = .ok (.istore_n 3, 1) := by decide +kernel
theorem dX4_shelf_62 : decode cX4_shelf 62 = .ok (.iload 4, 2) := by decide +kernel
theorem dX4_shelf_64 : decode cX4_shelf 64 = .ok (.aload_n 0, 1) := by decide +kernel
theorem dX4_shelf_65 : decode cX4_shelf 65 = .ok (.iload 5, 2) := by decide +kernel
theorem dX4_shelf_67 : decode cX4_shelf 67 = .ok (.invokevirtual 69, 3) := by decide +kernel
theorem dX4_shelf_70 : decode cX4_shelf 70 = .ok (.ifCond .ne 16, 3) := by decide +kernel
theorem dX4_shelf_73 : decode cX4_shelf 73 = .ok (.aload_n 0, 1) := by decide +kernel
theorem dX4_shelf_74 : decode cX4_shelf 74 = .ok (.iload 5, 2) := by decide +kernel
theorem dX4_shelf_76 : decode cX4_shelf 76 = .ok (.invokevirtual 79, 3) := by decide +kernel
theorem dX4_shelf_79 : decode cX4_shelf 79 = .ok (.ifCond .eq 7, 3) := by decide +kernel
theorem dX4_shelf_82 : decode cX4_shelf 82 = .ok (.iconst 1, 1) := by decide +kernel
theorem dX4_shelf_83 : decode cX4_shelf 83 = .ok (.goto 4, 3) := by decide +kernel
theorem dX4_shelf_86 : decode cX4_shelf 86 = .ok (.iconst 0, 1) := by decide +kernel
theorem dX4_shelf_87 : decode cX4_shelf 87 = .ok (.iadd, 1) := by decide +kernel
theorem dX4_shelf_88 : decode cX4_shelf 88 = .ok (.istore 4, 2) := by decide +kernel
theorem dX4_shelf_90 : decode cX4_shelf 90 = .ok (.iinc 5 1, 3) := by decide +kernel
theorem dX4_shelf_93 : decode cX4_shelf 93 = .ok (.goto (-59), 3) := by decide +kernel
theorem dX4_shelf_96 : decode cX4_shelf 96 = .ok (.iload_n 2, 1) := by decide +kernel
theorem dX4_shelf_97 : decode cX4_shelf 97 = .ok (.ifCond .ne 9, 3) := by decide +kernel
theorem dX4_shelf_100 : decode cX4_shelf 100 = .ok (.iload_n 1, 1) := by decide +kernel
theorem dX4_shelf_101 : decode cX4_shelf 101 = .ok (.iconst 2, 1) := by decide +kernel
theorem dX4_shelf_102 : decode cX4_shelf 102 = .ok (.idiv, 1) := by decide +kernel
theorem dX4_shelf_103 : decode cX4_shelf 103 = .ok (.goto 14, 3) := by decide +kernel
theorem dX4_shelf_106 : decode cX4_shelf 106 = .ok (.iload_n 2, 1) := by decide +kernel
theorem dX4_shelf_107 : decode cX4_shelf 107 = .ok (.iconst 1, 1) := by decide +kernel
theorem dX4_shelf_108 : decode cX4_shelf 108 = .ok (.if_icmp .ne 7, 3) := by decide +kernel
theorem dX4_shelf_111 : decode cX4_shelf 111 = .ok (.iload_n 3, 1) := by decide +kernel
theorem dX4_shelf_112 : decode cX4_shelf 112 = .ok (.goto 5, 3) := by decide +kernel
theorem dX4_shelf_115 : decode cX4_shelf 115 = .ok (.iload 4, 2) := by decide +kernel
theorem dX4_shelf_117 : decode cX4_shelf 117 = .ok (.ireturn, 1) := by decide +kernel
set_option maxRecDepth 20000 in
theorem ggX4_sender_X4_isSender : GoodIn wsX4_sender wsX4_isSender := goodIn_r _ [4, 5, 6, 3, 7] (by decide +kernel) (by decide +kernel)
set_option maxRecDepth 20000 in
theorem gX4_sender_X4_isSender : GoodIn wsX4_sender (va_wsS RX4 86 yX4_isSender wsX4_isSender) := goodIn_app (goodIn_of _ (by decide +kernel)) ggX4_sender_X4_isSender
set_option maxRecDepth 20000 in
theorem ggX4_sender_X4_in : GoodIn wsX4_sender wsX4_in := goodIn_r _ [7] (by decide +kernel) (by decide +kernel)
set_option maxRecDepth 20000 in
theorem gX4_sender_X4_in : GoodIn wsX4_sender (va_wsS RX4 50 yX4_in wsX4_in) := goodIn_app (goodIn_of _ (by decide +kernel)) ggX4_sender_X4_in
set_option maxRecDepth 20000 in
theorem ggX4_sender_X4_at : GoodIn wsX4_sender wsX4_at := goodIn_r _ [11, 12, 17, 18, 19, 20, 21, 22, 23, 24, 25, 26, 27, 28, 29, 30] (by decide +kernel) (by decide +kernel)
set_option maxRecDepth 20000 in
theorem gX4_sender_X4_at : GoodIn wsX4_sender (wsV RX4 58 RX4 yX4_at wsX4_at) := goodIn_app (goodIn_of _ (by decide +kernel)) ggX4_sender_X4_at
set_option maxRecDepth 20000 in
theorem ggX4_sender_X4_ofSender : GoodIn wsX4_sender wsX4_ofSender := goodIn_r _ [16, 12, 17, 18, 19, 20, 21, 22, 23, 24, 25, 26, 27, 28, 29, 30] (by decide +kernel) (by decide +kernel)
set_option maxRecDepth 20000 in
theorem gX4_sender_X4_ofSender : GoodIn wsX4_sender (wsV RX4 135 RX4 yX4_ofSender wsX4_ofSender) := goodIn_app (goodIn_of _ (by decide +kernel)) ggX4_sender_X4_ofSender
theorem dX4_sender_0 : decode cX4_sender 0 = .ok (.iload_n 1, 1) := by decide +kernel
theorem dX4_sender_1 : decode cX4_sender 1 = .ok (.invokestatic 86, 3) := by decide +kernel
theorem dX4_sender_4 : decode cX4_sender 4 = .ok (.ifCond .ne 5, 3) := by decide +kernel
theorem dX4_sender_7 : decode cX4_sender 7 = .ok (.iconst (-1), 1) := by decide +kernel
theorem dX4_sender_8 : decode cX4_sender 8 = .ok (.ireturn, 1) := by decide +kernel
theorem dX4_sender_9 : decode cX4_sender 9 = .ok (.iload_n 2, 1) := by decide +kernel
theorem dX4_sender_10 : decode cX4_sender 10 = .ok (.iconst 0, 1) := by decide +kernel
theorem dX4_sender_11 : decode cX4_sender 11 = .ok (.iconst 4, 1) := by decide +kernel
theorem dX4_sender_12 : decode cX4_sender 12 = .ok (.invokestatic 50, 3) := by decide +kernel
theorem dX4_sender_15 : decode cX4_sender 15 = .ok (.ifCond .ne 6, 3) := by decide +kernel
theorem dX4_sender_18 : decode cX4_sender 18 = .ok (.bipush (-2), 2) := by decide +kernel
theorem dX4_sender_20 : decode cX4_sender 20 = .ok (.ireturn, 1) := by decide +kernel
theorem dX4_sender_21 : decode cX4_sender 21 = .ok (.iconst 0, 1) := by decide +kernel
theorem dX4_sender_22 : decode cX4_sender 22 = .ok (.istore_n 3, 1) := by decide +kernel
theorem dX4_sender_23 : decode cX4_sender 23 = .ok (.iconst 0, 1) := by decide +kernel
theorem dX4_sender_24 : decode cX4_sender 24 = .ok (.istore 4, 2) := by decide +kernel
theorem dX4_sender_26 : decode cX4_sender 26 = .ok (.iload 4, 2) := by decide +kernel
theorem dX4_sender_28 : decode cX4_sender 28 = .ok (.bipush 48, 2) := by decide +kernel
theorem dX4_sender_30 : decode cX4_sender 30 = .ok (.if_icmp .ge 30, 3) := by decide +kernel
theorem dX4_sender_33 : decode cX4_sender 33 = .ok (.iload_n 3, 1) := by decide +kernel
theorem dX4_sender_34 : decode cX4_sender 34 = .ok (.aload_n 0, 1) := by decide +kernel
theorem dX4_sender_35 : decode cX4_sender 35 = .ok (.iload 4, 2) := by decide +kernel
theorem dX4_sender_37 : decode cX4_sender 37 = .ok (.iconst 0, 1) := by decide +kernel
theorem dX4_sender_38 : decode cX4_sender 38 = .ok (.invokevirtual 58, 3) := by decide +kernel
theorem dX4_sender_41 : decode cX4_sender 41 = .ok (.iload_n 1, 1) := by decide +kernel
theorem dX4_sender_42 : decode cX4_sender 42 = .ok (.iconst 1, 1) := by decide +kernel
theorem dX4_sender_43 : decode cX4_sender 43 = .ok (.iadd, 1) := by decide +kernel
theorem dX4_sender_44 : decode cX4_sender 44 = .ok (.if_icmp .ne 7, 3) := by decide +kernel
theorem dX4_sender_47 : decode cX4_sender 47 = .ok (.iconst 1, 1) := by decide +kernel
theorem dX4_sender_48 : decode cX4_sender 48 = .ok (.goto 4, 3) := by decide +kernel
theorem dX4_sender_51 : decode cX4_sender 51 = .ok (.iconst 0, 1) := by decide +kernel
theorem dX4_sender_52 : decode cX4_sender 52 = .ok (.iadd, 1) := by decide +kernel
theorem dX4_sender_53 : decode cX4_sender 53 = .ok (.istore_n 3, 1) := by decide +kernel
theorem dX4_sender_54 : decode cX4_sender 54 = .ok (.iinc 4 1, 3) := by decide +kernel
theorem dX4_sender_57 : decode cX4_sender 57 = .ok (.goto (-31), 3) := by decide +kernel
theorem dX4_sender_60 : decode cX4_sender 60 = .ok (.iload_n 2, 1) := by decide +kernel
theorem dX4_sender_61 : decode cX4_sender 61 = .ok (.ifCond .ne 7, 3) := by decide +kernel
theorem dX4_sender_64 : decode cX4_sender 64 = .ok (.iload_n 3, 1) := by decide +kernel
theorem dX4_sender_65 : decode cX4_sender 65 = .ok (.goto 11, 3) := by decide +kernel
theorem dX4_sender_68 : decode cX4_sender 68 = .ok (.aload_n 0, 1) := by decide +kernel
theorem dX4_sender_69 : decode cX4_sender 69 = .ok (.iload_n 1, 1) := by decide +kernel
theorem dX4_sender_70 : decode cX4_sender 70 = .ok (.iload_n 2, 1) := by decide +kernel
theorem dX4_sender_71 : decode cX4_sender 71 = .ok (.iconst 1, 1) := by decide +kernel
theorem dX4_sender_72 : decode cX4_sender 72 = .ok (.isub, 1) := by decide +kernel
theorem dX4_sender_73 : decode cX4_sender 73 = .ok (.invokevirtual 135, 3) := by decide +kernel
theorem dX4_sender_76 : decode cX4_sender 76 = .ok (.ireturn, 1) := by decide +kernel
set_option maxRecDepth 20000 in
theorem ggX4_parcels_X4_isTaken : GoodIn wsX4_parcels wsX4_isTaken := goodIn_r _ [5, 6, 7, 8, 4, 9, 10, 11, 12, 13, 14, 15, 16, 17, 18, 19, 20, 21, 22, 23, 24] (by decide +kernel) (by decide +kernel)
set_option maxRecDepth 20000 in
theorem gX4_parcels_X4_isTaken : GoodIn wsX4_parcels (wsV RX4 69 RX4 yX4_isTaken wsX4_isTaken) := goodIn_app (goodIn_of _ (by decide +kernel)) ggX4_parcels_X4_isTaken
theorem dX4_parcels_0 : decode cX4_parcels 0 = .ok (.iconst 0, 1) := by decide +kernel
theorem dX4_parcels_1 : decode cX4_parcels 1 = .ok (.istore_n 1, 1) := by decide +kernel
theorem dX4_parcels_2 : decode cX4_parcels 2 = .ok (.iconst 0, 1) := by decide +kernel
theorem dX4_parcels_3 : decode cX4_parcels 3 = .ok (.istore_n 2, 1) := by decide +kernel
theorem dX4_parcels_4 : decode cX4_parcels 4 = .ok (.iload_n 2, 1) := by decide +kernel
theorem dX4_parcels_5 : decode cX4_parcels 5 = .ok (.bipush 48, 2) := by decide +kernel
theorem dX4_parcels_7 : decode cX4_parcels 7 = .ok (.if_icmp .ge 25, 3) := by decide +kernel
theorem dX4_parcels_10 : decode cX4_parcels 10 = .ok (.iload_n 1, 1) := by decide +kernel
theorem dX4_parcels_11 : decode cX4_parcels 11 = .ok (.aload_n 0, 1) := by decide +kernel
theorem dX4_parcels_12 : decode cX4_parcels 12 = .ok (.iload_n 2, 1) := by decide +kernel
theorem dX4_parcels_13 : decode cX4_parcels 13 = .ok (.invokevirtual 69, 3) := by decide +kernel
theorem dX4_parcels_16 : decode cX4_parcels 16 = .ok (.ifCond .eq 7, 3) := by decide +kernel
theorem dX4_parcels_19 : decode cX4_parcels 19 = .ok (.iconst 1, 1) := by decide +kernel
theorem dX4_parcels_20 : decode cX4_parcels 20 = .ok (.goto 4, 3) := by decide +kernel
theorem dX4_parcels_23 : decode cX4_parcels 23 = .ok (.iconst 0, 1) := by decide +kernel
theorem dX4_parcels_24 : decode cX4_parcels 24 = .ok (.iadd, 1) := by decide +kernel
theorem dX4_parcels_25 : decode cX4_parcels 25 = .ok (.istore_n 1, 1) := by decide +kernel
theorem dX4_parcels_26 : decode cX4_parcels 26 = .ok (.iinc 2 1, 3) := by decide +kernel
theorem dX4_parcels_29 : decode cX4_parcels 29 = .ok (.goto (-25), 3) := by decide +kernel
theorem dX4_parcels_32 : decode cX4_parcels 32 = .ok (.iload_n 1, 1) := by decide +kernel
theorem dX4_parcels_33 : decode cX4_parcels 33 = .ok (.ireturn, 1) := by decide +kernel
set_option maxRecDepth 20000 in
theorem ggX4_inBins_X4_ofSender : GoodIn wsX4_inBins wsX4_ofSender := goodIn_r _ [5, 6, 7, 8, 9, 10, 11, 12, 13, 14, 15, 16, 17, 18, 19, 20] (by decide +kernel) (by decide +kernel)
set_option maxRecDepth 20000 in
theorem gX4_inBins_X4_ofSender : GoodIn wsX4_inBins (wsV RX4 135 RX4 yX4_ofSender wsX4_ofSender) := goodIn_app (goodIn_of _ (by decide +kernel)) ggX4_inBins_X4_ofSender
theorem dX4_inBins_0 : decode cX4_inBins 0 = .ok (.iconst 0, 1) := by decide +kernel
theorem dX4_inBins_1 : decode cX4_inBins 1 = .ok (.istore_n 1, 1) := by decide +kernel
theorem dX4_inBins_2 : decode cX4_inBins 2 = .ok (.iconst 0, 1) := by decide +kernel
theorem dX4_inBins_3 : decode cX4_inBins 3 = .ok (.istore_n 2, 1) := by decide +kernel
theorem dX4_inBins_4 : decode cX4_inBins 4 = .ok (.iload_n 2, 1) := by decide +kernel
theorem dX4_inBins_5 : decode cX4_inBins 5 = .ok (.bipush 10, 2) := by decide +kernel
theorem dX4_inBins_7 : decode cX4_inBins 7 = .ok (.if_icmp .ge 18, 3) := by decide +kernel
theorem dX4_inBins_10 : decode cX4_inBins 10 = .ok (.iload_n 1, 1) := by decide +kernel
theorem dX4_inBins_11 : decode cX4_inBins 11 = .ok (.aload_n 0, 1) := by decide +kernel
theorem dX4_inBins_12 : decode cX4_inBins 12 = .ok (.iload_n 2, 1) := by decide +kernel
theorem dX4_inBins_13 : decode cX4_inBins 13 = .ok (.iconst 0, 1) := by decide +kernel
theorem dX4_inBins_14 : decode cX4_inBins 14 = .ok (.invokevirtual 135, 3) := by decide +kernel
theorem dX4_inBins_17 : decode cX4_inBins 17 = .ok (.iadd, 1) := by decide +kernel
theorem dX4_inBins_18 : decode cX4_inBins 18 = .ok (.istore_n 1, 1) := by decide +kernel
theorem dX4_inBins_19 : decode cX4_inBins 19 = .ok (.iinc 2 1, 3) := by decide +kernel
theorem dX4_inBins_22 : decode cX4_inBins 22 = .ok (.goto (-18), 3) := by decide +kernel
theorem dX4_inBins_25 : decode cX4_inBins 25 = .ok (.iload_n 1, 1) := by decide +kernel
theorem dX4_inBins_26 : decode cX4_inBins 26 = .ok (.ireturn, 1) := by decide +kernel
set_option maxRecDepth 20000 in
theorem ggX4_fees_X4_isTaken : GoodIn wsX4_fees wsX4_isTaken := goodIn_r _ [6, 7, 8, 9, 5, 10, 1, 15, 16, 17, 18, 19, 20, 21, 22, 23, 24, 25, 26, 27, 28] (by decide +kernel) (by decide +kernel)
set_option maxRecDepth 20000 in
theorem gX4_fees_X4_isTaken : GoodIn wsX4_fees (wsV RX4 69 RX4 yX4_isTaken wsX4_isTaken) := goodIn_app (goodIn_of _ (by decide +kernel)) ggX4_fees_X4_isTaken
set_option maxRecDepth 20000 in
theorem ggX4_fees_X4_feeOn : GoodIn wsX4_fees wsX4_feeOn := goodIn_r _ [14, 1, 7, 8, 9, 5, 10, 15, 16, 17, 18, 19, 20, 21, 22, 23, 24, 25, 26, 27, 28] (by decide +kernel) (by decide +kernel)
set_option maxRecDepth 20000 in
theorem gX4_fees_X4_feeOn : GoodIn wsX4_fees (wsV RX4 115 RX4 yX4_feeOn wsX4_feeOn) := goodIn_app (goodIn_of _ (by decide +kernel)) ggX4_fees_X4_feeOn
theorem dX4_fees_0 : decode cX4_fees 0 = .ok (.iconst 0, 1) := by decide +kernel
theorem dX4_fees_1 : decode cX4_fees 1 = .ok (.istore_n 1, 1) := by decide +kernel
theorem dX4_fees_2 : decode cX4_fees 2 = .ok (.iconst 0, 1) := by decide +kernel
theorem dX4_fees_3 : decode cX4_fees 3 = .ok (.istore_n 2, 1) := by decide +kernel
theorem dX4_fees_4 : decode cX4_fees 4 = .ok (.iload_n 2, 1) := by decide +kernel
theorem dX4_fees_5 : decode cX4_fees 5 = .ok (.bipush 48, 2) := by decide +kernel
theorem dX4_fees_7 : decode cX4_fees 7 = .ok (.if_icmp .ge 35, 3) := by decide +kernel
theorem dX4_fees_10 : decode cX4_fees 10 = .ok (.iload_n 1, 1) := by decide +kernel
theorem dX4_fees_11 : decode cX4_fees 11 = .ok (.aload_n 0, 1) := by decide +kernel
theorem dX4_fees_12 : decode cX4_fees 12 = .ok (.iload_n 2, 1) := by decide +kernel
theorem dX4_fees_13 : decode cX4_fees 13 = .ok (.invokevirtual 69, 3) := by decide +kernel
theorem dX4_fees_16 : decode cX4_fees 16 = .ok (.ifCond .eq 17, 3) := by decide +kernel
theorem dX4_fees_19 : decode cX4_fees 19 = .ok (.aload_n 0, 1) := by decide +kernel
theorem dX4_fees_20 : decode cX4_fees 20 = .ok (.iload_n 2, 1) := by decide +kernel
theorem dX4_fees_21 : decode cX4_fees 21 = .ok (.aload_n 0, 1) := by decide +kernel
theorem dX4_fees_22 : decode cX4_fees 22 = .ok (.getfield 7, 3) := by decide +kernel
theorem dX4_fees_25 : decode cX4_fees 25 = .ok (.iconst 5, 1) := by decide +kernel
theorem dX4_fees_26 : decode cX4_fees 26 = .ok (.iaload, 1) := by decide +kernel
theorem dX4_fees_27 : decode cX4_fees 27 = .ok (.invokevirtual 115, 3) := by decide +kernel
theorem dX4_fees_30 : decode cX4_fees 30 = .ok (.goto 4, 3) := by decide +kernel
theorem dX4_fees_33 : decode cX4_fees 33 = .ok (.iconst 0, 1) := by decide +kernel
theorem dX4_fees_34 : decode cX4_fees 34 = .ok (.iadd, 1) := by decide +kernel
theorem dX4_fees_35 : decode cX4_fees 35 = .ok (.istore_n 1, 1) := by decide +kernel
theorem dX4_fees_36 : decode cX4_fees 36 = .ok (.iinc 2 1, 3) := by decide +kernel
theorem dX4_fees_39 : decode cX4_fees 39 = .ok (.goto (-35), 3) := by decide +kernel
theorem dX4_fees_42 : decode cX4_fees 42 = .ok (.iload_n 1, 1) := by decide +kernel
theorem dX4_fees_43 : decode cX4_fees 43 = .ok (.ireturn, 1) := by decide +kernel
set_option maxRecDepth 20000 in
theorem ggX4_total_X4_parcels : GoodIn wsX4_total wsX4_parcels := goodIn_r _ [6, 7, 8, 9, 5, 10, 11, 12, 13, 14, 1, 35, 36, 37, 38, 39, 40, 41, 42, 43, 44, 45, 46, 47, 48] (by decide +kernel) (by decide +kernel)
set_option maxRecDepth 20000 in
theorem gX4_total_X4_parcels : GoodIn wsX4_total (wsV RX4 43 RX4 yX4_parcels wsX4_parcels) := goodIn_app (goodIn_of _ (by decide +kernel)) ggX4_total_X4_parcels
set_option maxRecDepth 20000 in
theorem ggX4_total_X4_inBins : GoodIn wsX4_total wsX4_inBins := goodIn_r _ [18, 19, 20, 21, 5, 22, 1, 35, 36, 37, 38, 39, 40, 41, 42, 43, 44, 45, 46, 47, 48] (by decide +kernel) (by decide +kernel)
set_option maxRecDepth 20000 in
theorem gX4_total_X4_inBins : GoodIn wsX4_total (wsV RX4 165 RX4 yX4_inBins wsX4_inBins) := goodIn_app (goodIn_of _ (by decide +kernel)) ggX4_total_X4_inBins
set_option maxRecDepth 20000 in
theorem ggX4_total_X4_isLocked : GoodIn wsX4_total wsX4_isLocked := goodIn_r _ [26, 1, 35, 36, 37, 38, 39, 40, 41, 42, 43, 44, 45, 46, 47, 48] (by decide +kernel) (by decide +kernel)
set_option maxRecDepth 20000 in
theorem gX4_total_X4_isLocked : GoodIn wsX4_total (wsV RX4 108 RX4 yX4_isLocked wsX4_isLocked) := goodIn_app (goodIn_of _ (by decide +kernel)) ggX4_total_X4_isLocked
set_option maxRecDepth 20000 in
theorem ggX4_total_X4_fees : GoodIn wsX4_total wsX4_fees := goodIn_r _ [30, 1, 7, 8, 9, 5, 10, 11, 12, 13, 14, 31, 32, 33, 34, 35, 36, 37, 38, 39, 40, 41, 42, 43, 44, 45, 46, 47, 48] (by decide +kernel) (by decide +kernel)
set_option maxRecDepth 20000 in
theorem gX4_total_X4_fees : GoodIn wsX4_total (wsV RX4 168 RX4 yX4_fees wsX4_fees) := goodIn_app (goodIn_of _ (by decide +kernel)) ggX4_total_X4_fees
theorem dX4_total_0 : decode cX4_total 0 = .ok (.iload_n 1, 1) := by decide +kernel
theorem dX4_total_1 : decode cX4_total 1 = .ok (.tableswitch 103 0 9 #[55, 60, 65, 65, 65, 65, 65, 77, 85, 98], 55) := by decide +kernel
theorem dX4_total_56 : decode cX4_total 56 = .ok (.aload_n 0, 1) := by decide +kernel
theorem dX4_total_57 : decode cX4_total 57 = .ok (.invokevirtual 43, 3) := by decide +kernel
theorem dX4_total_60 : decode cX4_total 60 = .ok (.ireturn, 1) := by decide +kernel
theorem dX4_total_61 : decode cX4_total 61 = .ok (.aload_n 0, 1) := by decide +kernel
theorem dX4_total_62 : decode cX4_total 62 = .ok (.invokevirtual 165, 3) := by decide +kernel
theorem dX4_total_65 : decode cX4_total 65 = .ok (.ireturn, 1) := by decide +kernel
theorem dX4_total_66 : decode cX4_total 66 = .ok (.aload_n 0, 1) := by decide +kernel
theorem dX4_total_67 : decode cX4_total 67 = .ok (.getfield 7, 3) := by decide +kernel
theorem dX4_total_70 : decode cX4_total 70 = .ok (.bipush 7, 2) := by decide +kernel
theorem dX4_total_72 : decode cX4_total 72 = .ok (.iload_n 1, 1) := by decide +kernel
theorem dX4_total_73 : decode cX4_total 73 = .ok (.iadd, 1) := by decide +kernel
theorem dX4_total_74 : decode cX4_total 74 = .ok (.iconst 2, 1) := by decide +kernel
theorem dX4_total_75 : decode cX4_total 75 = .ok (.isub, 1) := by decide +kernel
theorem dX4_total_76 : decode cX4_total 76 = .ok (.iaload, 1) := by decide +kernel
theorem dX4_total_77 : decode cX4_total 77 = .ok (.ireturn, 1) := by decide +kernel
theorem dX4_total_78 : decode cX4_total 78 = .ok (.aload_n 0, 1) := by decide +kernel
theorem dX4_total_79 : decode cX4_total 79 = .ok (.getfield 7, 3) := by decide +kernel
end
section
theorem dX4_total_82 : decode cX4_total 82 = .ok (.bipush 6, 2) := by decide +kernel
theorem dX4_total_84 : decode cX4_total 84 = .ok (.iaload, 1) := by decide +kernel
theorem dX4_total_85 : decode cX4_total 85 = .ok (.ireturn, 1) := by decide +kernel
theorem dX4_total_86 : decode cX4_total 86 = .ok (.aload_n 0, 1) := by decide +kernel
theorem dX4_total_87 : decode cX4_total 87 = .ok (.invokevirtual 108, 3) := by decide +kernel
theorem dX4_total_90 : decode cX4_total 90 = .ok (.ifCond .eq 7, 3) := by decide +kernel
theorem dX4_total_93 : decode cX4_total 93 = .ok (.iconst 1, 1) := by decide +kernel
theorem dX4_total_94 : decode cX4_total 94 = .ok (.goto 4, 3) := by decide +kernel
theorem dX4_total_97 : decode cX4_total 97 = .ok (.iconst 0, 1) := by decide +kernel
theorem dX4_total_98 : decode cX4_total 98 = .ok (.ireturn, 1) := by decide +kernel
theorem dX4_total_99 : decode cX4_total 99 = .ok (.aload_n 0, 1) := by decide +kernel
theorem dX4_total_100 : decode cX4_total 100 = .ok (.invokevirtual 168, 3) := by decide +kernel
theorem dX4_total_103 : decode cX4_total 103 = .ok (.ireturn, 1) := by decide +kernel
theorem dX4_total_104 : decode cX4_total 104 = .ok (.bipush (-2), 2) := by decide +kernel
theorem dX4_total_106 : decode cX4_total 106 = .ok (.ireturn, 1) := by decide +kernel
theorem dX4_refusal_0 : decode cX4_refusal 0 = .ok (.iload_n 1, 1) := by decide +kernel
theorem dX4_refusal_1 : decode cX4_refusal 1 = .ok (.ifCond .ne 10, 3) := by decide +kernel
theorem dX4_refusal_4 : decode cX4_refusal 4 = .ok (.aload_n 0, 1) := by decide +kernel
theorem dX4_refusal_5 : decode cX4_refusal 5 = .ok (.getfield 22, 3) := by decide +kernel
theorem dX4_refusal_8 : decode cX4_refusal 8 = .ok (.goto 17, 3) := by decide +kernel
theorem dX4_refusal_11 : decode cX4_refusal 11 = .ok (.iload_n 1, 1) := by decide +kernel
theorem dX4_refusal_12 : decode cX4_refusal 12 = .ok (.iconst 1, 1) := by decide +kernel
theorem dX4_refusal_13 : decode cX4_refusal 13 = .ok (.if_icmp .ne 10, 3) := by decide +kernel
theorem dX4_refusal_16 : decode cX4_refusal 16 = .ok (.aload_n 0, 1) := by decide +kernel
theorem dX4_refusal_17 : decode cX4_refusal 17 = .ok (.getfield 26, 3) := by decide +kernel
theorem dX4_refusal_20 : decode cX4_refusal 20 = .ok (.goto 5, 3) := by decide +kernel
theorem dX4_refusal_23 : decode cX4_refusal 23 = .ok (.bipush (-2), 2) := by decide +kernel
theorem dX4_refusal_25 : decode cX4_refusal 25 = .ok (.ireturn, 1) := by decide +kernel
set_option maxRecDepth 20000 in
theorem ggX4_isCode_X4_in : GoodIn wsX4_isCode wsX4_in := goodIn_r _ [4] (by decide +kernel) (by decide +kernel)
set_option maxRecDepth 20000 in
theorem gX4_isCode_X4_in : GoodIn wsX4_isCode (va_wsS RX4 50 yX4_in wsX4_in) := goodIn_app (goodIn_of _ (by decide +kernel)) ggX4_isCode_X4_in
set_option maxRecDepth 20000 in
theorem ggX4_isCode_X4_indexOf : GoodIn wsX4_isCode wsX4_indexOf := goodIn_r _ [7, 1, 2, 3, 4, 8, 9, 10] (by decide +kernel) (by decide +kernel)
set_option maxRecDepth 20000 in
theorem gX4_isCode_X4_indexOf : GoodIn wsX4_isCode (va_wsS RX4 65 yX4_indexOf wsX4_indexOf) := goodIn_app (goodIn_of _ (by decide +kernel)) ggX4_isCode_X4_indexOf
theorem dX4_isCode_0 : decode cX4_isCode 0 = .ok (.iload_n 1, 1) := by decide +kernel
theorem dX4_isCode_1 : decode cX4_isCode 1 = .ok (.iconst 0, 1) := by decide +kernel
theorem dX4_isCode_2 : decode cX4_isCode 2 = .ok (.sipush 9999, 3) := by decide +kernel
theorem dX4_isCode_5 : decode cX4_isCode 5 = .ok (.invokestatic 50, 3) := by decide +kernel
theorem dX4_isCode_8 : decode cX4_isCode 8 = .ok (.ifCond .ne 8, 3) := by decide +kernel
theorem dX4_isCode_11 : decode cX4_isCode 11 = .ok (.bipush (-2), 2) := by decide +kernel
theorem dX4_isCode_13 : decode cX4_isCode 13 = .ok (.goto 17, 3) := by decide +kernel
theorem dX4_isCode_16 : decode cX4_isCode 16 = .ok (.iload_n 1, 1) := by decide +kernel
theorem dX4_isCode_17 : decode cX4_isCode 17 = .ok (.invokestatic 65, 3) := by decide +kernel
theorem dX4_isCode_20 : decode cX4_isCode 20 = .ok (.bipush (-6), 2) := by decide +kernel
theorem dX4_isCode_22 : decode cX4_isCode 22 = .ok (.if_icmp .ne 7, 3) := by decide +kernel
theorem dX4_isCode_25 : decode cX4_isCode 25 = .ok (.iconst 0, 1) := by decide +kernel
theorem dX4_isCode_26 : decode cX4_isCode 26 = .ok (.goto 4, 3) := by decide +kernel
theorem dX4_isCode_29 : decode cX4_isCode 29 = .ok (.iconst 1, 1) := by decide +kernel
theorem dX4_isCode_30 : decode cX4_isCode 30 = .ok (.ireturn, 1) := by decide +kernel
set_option maxRecDepth 20000 in
theorem ggX4_codeOf_X4_isPlace : GoodIn wsX4_codeOf wsX4_isPlace := goodIn_r _ [4, 5, 6, 3, 7] (by decide +kernel) (by decide +kernel)
set_option maxRecDepth 20000 in
theorem gX4_codeOf_X4_isPlace : GoodIn wsX4_codeOf (va_wsS RX4 162 yX4_isPlace wsX4_isPlace) := goodIn_app (goodIn_of _ (by decide +kernel)) ggX4_codeOf_X4_isPlace
set_option maxRecDepth 20000 in
theorem ggX4_codeOf_X4_in : GoodIn wsX4_codeOf wsX4_in := goodIn_r _ [7] (by decide +kernel) (by decide +kernel)
set_option maxRecDepth 20000 in
theorem gX4_codeOf_X4_in : GoodIn wsX4_codeOf (va_wsS RX4 50 yX4_in wsX4_in) := goodIn_app (goodIn_of _ (by decide +kernel)) ggX4_codeOf_X4_in
set_option maxRecDepth 20000 in
theorem ggX4_codeOf_X4_weekday : GoodIn wsX4_codeOf wsX4_weekday := goodIn_r _ [10] (by decide +kernel) (by decide +kernel)
set_option maxRecDepth 20000 in
theorem gX4_codeOf_X4_weekday : GoodIn wsX4_codeOf (va_wsS RX4 73 yX4_weekday wsX4_weekday) := goodIn_app (goodIn_of _ (by decide +kernel)) ggX4_codeOf_X4_weekday
set_option maxRecDepth 20000 in
theorem ggX4_codeOf_X4_codeBy : GoodIn wsX4_codeOf wsX4_codeBy := goodIn_r _ [13] (by decide +kernel) (by decide +kernel)
set_option maxRecDepth 20000 in
theorem gX4_codeOf_X4_codeBy : GoodIn wsX4_codeOf (va_wsS RX4 62 yX4_codeBy wsX4_codeBy) := goodIn_app (goodIn_of _ (by decide +kernel)) ggX4_codeOf_X4_codeBy
theorem dX4_codeOf_0 : decode cX4_codeOf 0 = .ok (.iload_n 2, 1) := by decide +kernel
theorem dX4_codeOf_1 : decode cX4_codeOf 1 = .ok (.iload_n 3, 1) := by decide +kernel
theorem dX4_codeOf_2 : decode cX4_codeOf 2 = .ok (.invokestatic 162, 3) := by decide +kernel
theorem dX4_codeOf_5 : decode cX4_codeOf 5 = .ok (.ifCond .ne 5, 3) := by decide +kernel
theorem dX4_codeOf_8 : decode cX4_codeOf 8 = .ok (.iconst (-1), 1) := by decide +kernel
theorem dX4_codeOf_9 : decode cX4_codeOf 9 = .ok (.ireturn, 1) := by decide +kernel
theorem dX4_codeOf_10 : decode cX4_codeOf 10 = .ok (.iload_n 1, 1) := by decide +kernel
theorem dX4_codeOf_11 : decode cX4_codeOf 11 = .ok (.iconst 0, 1) := by decide +kernel
theorem dX4_codeOf_12 : decode cX4_codeOf 12 = .ok (.sipush 9999, 3) := by decide +kernel
theorem dX4_codeOf_15 : decode cX4_codeOf 15 = .ok (.invokestatic 50, 3) := by decide +kernel
theorem dX4_codeOf_18 : decode cX4_codeOf 18 = .ok (.ifCond .eq 19, 3) := by decide +kernel
theorem dX4_codeOf_21 : decode cX4_codeOf 21 = .ok (.iload_n 1, 1) := by decide +kernel
theorem dX4_codeOf_22 : decode cX4_codeOf 22 = .ok (.invokestatic 73, 3) := by decide +kernel
theorem dX4_codeOf_25 : decode cX4_codeOf 25 = .ok (.bipush 8, 2) := by decide +kernel
theorem dX4_codeOf_27 : decode cX4_codeOf 27 = .ok (.iload_n 2, 1) := by decide +kernel
theorem dX4_codeOf_28 : decode cX4_codeOf 28 = .ok (.imul, 1) := by decide +kernel
theorem dX4_codeOf_29 : decode cX4_codeOf 29 = .ok (.iload_n 3, 1) := by decide +kernel
theorem dX4_codeOf_30 : decode cX4_codeOf 30 = .ok (.iadd, 1) := by decide +kernel
theorem dX4_codeOf_31 : decode cX4_codeOf 31 = .ok (.invokestatic 62, 3) := by decide +kernel
theorem dX4_codeOf_34 : decode cX4_codeOf 34 = .ok (.goto 5, 3) := by decide +kernel
theorem dX4_codeOf_37 : decode cX4_codeOf 37 = .ok (.bipush (-2), 2) := by decide +kernel
theorem dX4_codeOf_39 : decode cX4_codeOf 39 = .ok (.ireturn, 1) := by decide +kernel
set_option maxRecDepth 20000 in
theorem ggX4_restsUntil_X4_in : GoodIn wsX4_restsUntil wsX4_in := goodIn_r _ [4] (by decide +kernel) (by decide +kernel)
set_option maxRecDepth 20000 in
theorem gX4_restsUntil_X4_in : GoodIn wsX4_restsUntil (va_wsS RX4 50 yX4_in wsX4_in) := goodIn_app (goodIn_of _ (by decide +kernel)) ggX4_restsUntil_X4_in
set_option maxRecDepth 20000 in
theorem ggX4_restsUntil_X4_indexOf : GoodIn wsX4_restsUntil wsX4_indexOf := goodIn_r _ [7, 1, 2, 3, 4, 8, 9, 10] (by decide +kernel) (by decide +kernel)
set_option maxRecDepth 20000 in
theorem gX4_restsUntil_X4_indexOf : GoodIn wsX4_restsUntil (va_wsS RX4 65 yX4_indexOf wsX4_indexOf) := goodIn_app (goodIn_of _ (by decide +kernel)) ggX4_restsUntil_X4_indexOf
set_option maxRecDepth 20000 in
theorem ggX4_restsUntil_X4_restsOf : GoodIn wsX4_restsUntil wsX4_restsOf := goodIn_r _ [14, 15, 16, 17, 18, 19, 20, 21, 22, 23, 24, 25, 26, 27, 28, 29] (by decide +kernel) (by decide +kernel)
set_option maxRecDepth 20000 in
theorem gX4_restsUntil_X4_restsOf : GoodIn wsX4_restsUntil (wsV RX4 76 RX4 yX4_restsOf wsX4_restsOf) := goodIn_app (goodIn_of _ (by decide +kernel)) ggX4_restsUntil_X4_restsOf
theorem dX4_restsUntil_0 : decode cX4_restsUntil 0 = .ok (.iload_n 1, 1) := by decide +kernel
theorem dX4_restsUntil_1 : decode cX4_restsUntil 1 = .ok (.iconst 0, 1) := by decide +kernel
theorem dX4_restsUntil_2 : decode cX4_restsUntil 2 = .ok (.sipush 9999, 3) := by decide +kernel
theorem dX4_restsUntil_5 : decode cX4_restsUntil 5 = .ok (.invokestatic 50, 3) := by decide +kernel
theorem dX4_restsUntil_8 : decode cX4_restsUntil 8 = .ok (.ifCond .eq 14, 3) := by decide +kernel
theorem dX4_restsUntil_11 : decode cX4_restsUntil 11 = .ok (.aload_n 0, 1) := by decide +kernel
theorem dX4_restsUntil_12 : decode cX4_restsUntil 12 = .ok (.iload_n 1, 1) := by decide +kernel
theorem dX4_restsUntil_13 : decode cX4_restsUntil 13 = .ok (.invokestatic 65, 3) := by decide +kernel
theorem dX4_restsUntil_16 : decode cX4_restsUntil 16 = .ok (.invokevirtual 76, 3) := by decide +kernel
theorem dX4_restsUntil_19 : decode cX4_restsUntil 19 = .ok (.goto 5, 3) := by decide +kernel
theorem dX4_restsUntil_22 : decode cX4_restsUntil 22 = .ok (.bipush (-2), 2) := by decide +kernel
theorem dX4_restsUntil_24 : decode cX4_restsUntil 24 = .ok (.ireturn, 1) := by decide +kernel
set_option maxRecDepth 20000 in
theorem ggX4_nextCode_X4_in : GoodIn wsX4_nextCode wsX4_in := goodIn_r _ [5] (by decide +kernel) (by decide +kernel)
set_option maxRecDepth 20000 in
theorem gX4_nextCode_X4_in : GoodIn wsX4_nextCode (va_wsS RX4 50 yX4_in wsX4_in) := goodIn_app (goodIn_of _ (by decide +kernel)) ggX4_nextCode_X4_in
set_option maxRecDepth 20000 in
theorem ggX4_nextCode_X4_firstPlace : GoodIn wsX4_nextCode wsX4_firstPlace := goodIn_r _ [9, 10, 11, 12, 4, 13, 14, 15, 16, 17, 1, 18, 19, 20, 21, 22, 23, 24, 25, 26, 27, 28, 32, 33, 34, 35, 36, 37, 38, 39, 40, 41, 42, 43, 44, 45] (by decide +kernel) (by decide +kernel)
set_option maxRecDepth 20000 in
theorem gX4_nextCode_X4_firstPlace : GoodIn wsX4_nextCode (wsV RX4 89 RX4 yX4_firstPlace wsX4_firstPlace) := goodIn_app (goodIn_of _ (by decide +kernel)) ggX4_nextCode_X4_firstPlace
set_option maxRecDepth 20000 in
theorem ggX4_nextCode_X4_weekday : GoodIn wsX4_nextCode wsX4_weekday := goodIn_r _ [24] (by decide +kernel) (by decide +kernel)
set_option maxRecDepth 20000 in
theorem gX4_nextCode_X4_weekday : GoodIn wsX4_nextCode (va_wsS RX4 73 yX4_weekday wsX4_weekday) := goodIn_app (goodIn_of _ (by decide +kernel)) ggX4_nextCode_X4_weekday
set_option maxRecDepth 20000 in
theorem ggX4_nextCode_X4_codeBy : GoodIn wsX4_nextCode wsX4_codeBy := goodIn_r _ [31] (by decide +kernel) (by decide +kernel)
set_option maxRecDepth 20000 in
theorem gX4_nextCode_X4_codeBy : GoodIn wsX4_nextCode (va_wsS RX4 62 yX4_codeBy wsX4_codeBy) := goodIn_app (goodIn_of _ (by decide +kernel)) ggX4_nextCode_X4_codeBy
theorem dX4_nextCode_0 : decode cX4_nextCode 0 = .ok (.iload_n 1, 1) := by decide +kernel
theorem dX4_nextCode_1 : decode cX4_nextCode 1 = .ok (.iconst 0, 1) := by decide +kernel
theorem dX4_nextCode_2 : decode cX4_nextCode 2 = .ok (.iconst 2, 1) := by decide +kernel
theorem dX4_nextCode_3 : decode cX4_nextCode 3 = .ok (.invokestatic 50, 3) := by decide +kernel
theorem dX4_nextCode_6 : decode cX4_nextCode 6 = .ok (.ifCond .ne 6, 3) := by decide +kernel
theorem dX4_nextCode_9 : decode cX4_nextCode 9 = .ok (.bipush (-2), 2) := by decide +kernel
theorem dX4_nextCode_11 : decode cX4_nextCode 11 = .ok (.ireturn, 1) := by decide +kernel
theorem dX4_nextCode_12 : decode cX4_nextCode 12 = .ok (.aload_n 0, 1) := by decide +kernel
theorem dX4_nextCode_13 : decode cX4_nextCode 13 = .ok (.iconst 2, 1) := by decide +kernel
theorem dX4_nextCode_14 : decode cX4_nextCode 14 = .ok (.iload_n 1, 1) := by decide +kernel
theorem dX4_nextCode_15 : decode cX4_nextCode 15 = .ok (.imul, 1) := by decide +kernel
theorem dX4_nextCode_16 : decode cX4_nextCode 16 = .ok (.iconst 5, 1) := by decide +kernel
theorem dX4_nextCode_17 : decode cX4_nextCode 17 = .ok (.invokevirtual 89, 3) := by decide +kernel
theorem dX4_nextCode_20 : decode cX4_nextCode 20 = .ok (.istore_n 2, 1) := by decide +kernel
theorem dX4_nextCode_21 : decode cX4_nextCode 21 = .ok (.iload_n 2, 1) := by decide +kernel
theorem dX4_nextCode_22 : decode cX4_nextCode 22 = .ok (.bipush (-6), 2) := by decide +kernel
theorem dX4_nextCode_24 : decode cX4_nextCode 24 = .ok (.if_icmp .ne 8, 3) := by decide +kernel
theorem dX4_nextCode_27 : decode cX4_nextCode 27 = .ok (.bipush (-6), 2) := by decide +kernel
theorem dX4_nextCode_29 : decode cX4_nextCode 29 = .ok (.goto 16, 3) := by decide +kernel
theorem dX4_nextCode_32 : decode cX4_nextCode 32 = .ok (.aload_n 0, 1) := by decide +kernel
theorem dX4_nextCode_33 : decode cX4_nextCode 33 = .ok (.getfield 7, 3) := by decide +kernel
theorem dX4_nextCode_36 : decode cX4_nextCode 36 = .ok (.iconst 5, 1) := by decide +kernel
theorem dX4_nextCode_37 : decode cX4_nextCode 37 = .ok (.iaload, 1) := by decide +kernel
theorem dX4_nextCode_38 : decode cX4_nextCode 38 = .ok (.invokestatic 73, 3) := by decide +kernel
theorem dX4_nextCode_41 : decode cX4_nextCode 41 = .ok (.iload_n 2, 1) := by decide +kernel
theorem dX4_nextCode_42 : decode cX4_nextCode 42 = .ok (.invokestatic 62, 3) := by decide +kernel
theorem dX4_nextCode_45 : decode cX4_nextCode 45 = .ok (.ireturn, 1) := by decide +kernel
set_option maxRecDepth 20000 in
theorem ggX4_feeIn_X4_placeBy : GoodIn wsX4_feeIn wsX4_placeBy := goodIn_r _ [6, 7, 8, 5, 9, 10, 11, 12, 13, 14, 15, 16, 17, 18, 19, 20, 21, 22, 23, 1, 28, 29, 30, 31, 32, 33, 34, 35, 36, 37, 38, 39, 40, 41] (by decide +kernel) (by decide +kernel)
set_option maxRecDepth 20000 in
theorem gX4_feeIn_X4_placeBy : GoodIn wsX4_feeIn (wsV RX4 112 RX4 yX4_placeBy wsX4_placeBy) := goodIn_app (goodIn_of _ (by decide +kernel)) ggX4_feeIn_X4_placeBy
set_option maxRecDepth 20000 in
theorem ggX4_feeIn_X4_in : GoodIn wsX4_feeIn wsX4_in := goodIn_r _ [12] (by decide +kernel) (by decide +kernel)
set_option maxRecDepth 20000 in
theorem gX4_feeIn_X4_in : GoodIn wsX4_feeIn (va_wsS RX4 50 yX4_in wsX4_in) := goodIn_app (goodIn_of _ (by decide +kernel)) ggX4_feeIn_X4_in
set_option maxRecDepth 20000 in
theorem ggX4_feeIn_X4_feeOn : GoodIn wsX4_feeIn wsX4_feeOn := goodIn_r _ [27, 1, 20, 21, 22, 5, 23, 28, 29, 30, 31, 32, 33, 34, 35, 36, 37, 38, 39, 40, 41] (by decide +kernel) (by decide +kernel)
set_option maxRecDepth 20000 in
theorem gX4_feeIn_X4_feeOn : GoodIn wsX4_feeIn (wsV RX4 115 RX4 yX4_feeOn wsX4_feeOn) := goodIn_app (goodIn_of _ (by decide +kernel)) ggX4_feeIn_X4_feeOn
theorem dX4_feeIn_0 : decode cX4_feeIn 0 = .ok (.aload_n 0, 1) := by decide +kernel
theorem dX4_feeIn_1 : decode cX4_feeIn 1 = .ok (.iload_n 1, 1) := by decide +kernel
theorem dX4_feeIn_2 : decode cX4_feeIn 2 = .ok (.invokevirtual 112, 3) := by decide +kernel
theorem dX4_feeIn_5 : decode cX4_feeIn 5 = .ok (.istore_n 3, 1) := by decide +kernel
theorem dX4_feeIn_6 : decode cX4_feeIn 6 = .ok (.iload_n 3, 1) := by decide +kernel
theorem dX4_feeIn_7 : decode cX4_feeIn 7 = .ok (.bipush (-6), 2) := by decide +kernel
theorem dX4_feeIn_9 : decode cX4_feeIn 9 = .ok (.if_icmp .ne 5, 3) := by decide +kernel
theorem dX4_feeIn_12 : decode cX4_feeIn 12 = .ok (.iconst (-1), 1) := by decide +kernel
theorem dX4_feeIn_13 : decode cX4_feeIn 13 = .ok (.ireturn, 1) := by decide +kernel
theorem dX4_feeIn_14 : decode cX4_feeIn 14 = .ok (.iload_n 2, 1) := by decide +kernel
theorem dX4_feeIn_15 : decode cX4_feeIn 15 = .ok (.iconst 0, 1) := by decide +kernel
theorem dX4_feeIn_16 : decode cX4_feeIn 16 = .ok (.bipush 99, 2) := by decide +kernel
theorem dX4_feeIn_18 : decode cX4_feeIn 18 = .ok (.invokestatic 50, 3) := by decide +kernel
theorem dX4_feeIn_21 : decode cX4_feeIn 21 = .ok (.ifCond .eq 19, 3) := by decide +kernel
theorem dX4_feeIn_24 : decode cX4_feeIn 24 = .ok (.aload_n 0, 1) := by decide +kernel
theorem dX4_feeIn_25 : decode cX4_feeIn 25 = .ok (.iload_n 3, 1) := by decide +kernel
theorem dX4_feeIn_26 : decode cX4_feeIn 26 = .ok (.aload_n 0, 1) := by decide +kernel
theorem dX4_feeIn_27 : decode cX4_feeIn 27 = .ok (.getfield 7, 3) := by decide +kernel
theorem dX4_feeIn_30 : decode cX4_feeIn 30 = .ok (.iconst 5, 1) := by decide +kernel
theorem dX4_feeIn_31 : decode cX4_feeIn 31 = .ok (.iaload, 1) := by decide +kernel
theorem dX4_feeIn_32 : decode cX4_feeIn 32 = .ok (.iload_n 2, 1) := by decide +kernel
theorem dX4_feeIn_33 : decode cX4_feeIn 33 = .ok (.iadd, 1) := by decide +kernel
theorem dX4_feeIn_34 : decode cX4_feeIn 34 = .ok (.invokevirtual 115, 3) := by decide +kernel
theorem dX4_feeIn_37 : decode cX4_feeIn 37 = .ok (.goto 5, 3) := by decide +kernel
theorem dX4_feeIn_40 : decode cX4_feeIn 40 = .ok (.bipush (-2), 2) := by decide +kernel
theorem dX4_feeIn_42 : decode cX4_feeIn 42 = .ok (.ireturn, 1) := by decide +kernel
set_option maxRecDepth 20000 in
theorem ggX4_goesIn_X4_placeBy : GoodIn wsX4_goesIn wsX4_placeBy := goodIn_r _ [5, 6, 7, 4, 8, 9, 10, 11, 12, 13, 14, 15, 16, 17, 18, 19, 20, 21, 22, 23, 57, 58, 59, 60, 61, 62, 63, 64, 65, 66, 67, 68, 69, 70] (by decide +kernel) (by decide +kernel)
set_option maxRecDepth 20000 in
theorem gX4_goesIn_X4_placeBy : GoodIn wsX4_goesIn (wsV RX4 112 RX4 yX4_placeBy wsX4_placeBy) := goodIn_app (goodIn_of _ (by decide +kernel)) ggX4_goesIn_X4_placeBy
set_option maxRecDepth 20000 in
theorem ggX4_goesIn_X4_putAside : GoodIn wsX4_goesIn wsX4_putAside := goodIn_r _ [27, 28, 23, 57, 58, 59, 60, 61, 62, 63, 64, 65, 66, 67, 68, 69, 70] (by decide +kernel) (by decide +kernel)
set_option maxRecDepth 20000 in
theorem gX4_goesIn_X4_putAside : GoodIn wsX4_goesIn (wsV RX4 171 RX4 yX4_putAside wsX4_putAside) := goodIn_app (goodIn_of _ (by decide +kernel)) ggX4_goesIn_X4_putAside
set_option maxRecDepth 20000 in
theorem ggX4_goesIn_X4_isTaken : GoodIn wsX4_goesIn wsX4_isTaken := goodIn_r _ [18, 19, 20, 21, 4, 22, 23, 57, 58, 59, 60, 61, 62, 63, 64, 65, 66, 67, 68, 69, 70] (by decide +kernel) (by decide +kernel)
set_option maxRecDepth 20000 in
theorem gX4_goesIn_X4_isTaken : GoodIn wsX4_goesIn (wsV RX4 69 RX4 yX4_isTaken wsX4_isTaken) := goodIn_app (goodIn_of _ (by decide +kernel)) ggX4_goesIn_X4_isTaken
set_option maxRecDepth 20000 in
theorem ggX4_goesIn_X4_begins : GoodIn wsX4_goesIn wsX4_begins := goodIn_r _ [32, 23, 33, 34, 35, 4, 36, 37, 38, 39, 40, 41, 42, 43, 44, 15, 16, 17, 18, 19, 20, 21, 22, 45, 46, 47, 48, 49, 50, 51, 52, 57, 58, 59, 60, 61, 62, 63, 64, 65, 66, 67, 68, 69, 70] (by decide +kernel) (by decide +kernel)
set_option maxRecDepth 20000 in
theorem gX4_goesIn_X4_begins : GoodIn wsX4_goesIn (wsV RX4 153 RX4 yX4_begins wsX4_begins) := goodIn_app (goodIn_of _ (by decide +kernel)) ggX4_goesIn_X4_begins
set_option maxRecDepth 20000 in
theorem ggX4_goesIn_X4_takeBack : GoodIn wsX4_goesIn wsX4_takeBack := goodIn_r _ [56, 23, 28, 57, 58, 59, 60, 61, 62, 63, 64, 65, 66, 67, 68, 69, 70] (by decide +kernel) (by decide +kernel)
set_option maxRecDepth 20000 in
theorem gX4_goesIn_X4_takeBack : GoodIn wsX4_goesIn (wsV RX4 174 RX4 yX4_takeBack wsX4_takeBack) := goodIn_app (goodIn_of _ (by decide +kernel)) ggX4_goesIn_X4_takeBack
theorem dX4_goesIn_0 : decode cX4_goesIn 0 = .ok (.aload_n 0, 1) := by decide +kernel
theorem dX4_goesIn_1 : decode cX4_goesIn 1 = .ok (.iload_n 1, 1) := by decide +kernel
theorem dX4_goesIn_2 : decode cX4_goesIn 2 = .ok (.invokevirtual 112, 3) := by decide +kernel
theorem dX4_goesIn_5 : decode cX4_goesIn 5 = .ok (.istore_n 2, 1) := by decide +kernel
theorem dX4_goesIn_6 : decode cX4_goesIn 6 = .ok (.iload_n 2, 1) := by decide +kernel
theorem dX4_goesIn_7 : decode cX4_goesIn 7 = .ok (.bipush (-6), 2) := by decide +kernel
theorem dX4_goesIn_9 : decode cX4_goesIn 9 = .ok (.if_icmp .ne 5, 3) := by decide +kernel
theorem dX4_goesIn_12 : decode cX4_goesIn 12 = .ok (.iconst (-1), 1) := by decide +kernel
theorem dX4_goesIn_13 : decode cX4_goesIn 13 = .ok (.ireturn, 1) := by decide +kernel
theorem dX4_goesIn_14 : decode cX4_goesIn 14 = .ok (.aload_n 0, 1) := by decide +kernel
theorem dX4_goesIn_15 : decode cX4_goesIn 15 = .ok (.invokevirtual 171, 3) := by decide +kernel
theorem dX4_goesIn_18 : decode cX4_goesIn 18 = .ok (.iconst 0, 1) := by decide +kernel
theorem dX4_goesIn_19 : decode cX4_goesIn 19 = .ok (.istore_n 3, 1) := by decide +kernel
theorem dX4_goesIn_20 : decode cX4_goesIn 20 = .ok (.iload_n 3, 1) := by decide +kernel
theorem dX4_goesIn_21 : decode cX4_goesIn 21 = .ok (.bipush 60, 2) := by decide +kernel
theorem dX4_goesIn_23 : decode cX4_goesIn 23 = .ok (.if_icmp .ge 22, 3) := by decide +kernel
theorem dX4_goesIn_26 : decode cX4_goesIn 26 = .ok (.aload_n 0, 1) := by decide +kernel
theorem dX4_goesIn_27 : decode cX4_goesIn 27 = .ok (.iload_n 2, 1) := by decide +kernel
theorem dX4_goesIn_28 : decode cX4_goesIn 28 = .ok (.invokevirtual 69, 3) := by decide +kernel
theorem dX4_goesIn_31 : decode cX4_goesIn 31 = .ok (.ifCond .eq 14, 3) := by decide +kernel
theorem dX4_goesIn_34 : decode cX4_goesIn 34 = .ok (.aload_n 0, 1) := by decide +kernel
theorem dX4_goesIn_35 : decode cX4_goesIn 35 = .ok (.invokevirtual 153, 3) := by decide +kernel
theorem dX4_goesIn_38 : decode cX4_goesIn 38 = .ok (.pop, 1) := by decide +kernel
theorem dX4_goesIn_39 : decode cX4_goesIn 39 = .ok (.iinc 3 1, 3) := by decide +kernel
theorem dX4_goesIn_42 : decode cX4_goesIn 42 = .ok (.goto (-22), 3) := by decide +kernel
theorem dX4_goesIn_45 : decode cX4_goesIn 45 = .ok (.aload_n 0, 1) := by decide +kernel
theorem dX4_goesIn_46 : decode cX4_goesIn 46 = .ok (.iload_n 2, 1) := by decide +kernel
theorem dX4_goesIn_47 : decode cX4_goesIn 47 = .ok (.invokevirtual 69, 3) := by decide +kernel
theorem dX4_goesIn_50 : decode cX4_goesIn 50 = .ok (.ifCond .ne 7, 3) := by decide +kernel
theorem dX4_goesIn_53 : decode cX4_goesIn 53 = .ok (.iconst 1, 1) := by decide +kernel
theorem dX4_goesIn_54 : decode cX4_goesIn 54 = .ok (.goto 4, 3) := by decide +kernel
theorem dX4_goesIn_57 : decode cX4_goesIn 57 = .ok (.iconst 0, 1) := by decide +kernel
theorem dX4_goesIn_58 : decode cX4_goesIn 58 = .ok (.istore 4, 2) := by decide +kernel
theorem dX4_goesIn_60 : decode cX4_goesIn 60 = .ok (.aload_n 0, 1) := by decide +kernel
theorem dX4_goesIn_61 : decode cX4_goesIn 61 = .ok (.invokevirtual 174, 3) := by decide +kernel
theorem dX4_goesIn_64 : decode cX4_goesIn 64 = .ok (.iload 4, 2) := by decide +kernel
theorem dX4_goesIn_66 : decode cX4_goesIn 66 = .ok (.ifCond .eq 7, 3) := by decide +kernel
theorem dX4_goesIn_69 : decode cX4_goesIn 69 = .ok (.iload_n 3, 1) := by decide +kernel
theorem dX4_goesIn_70 : decode cX4_goesIn 70 = .ok (.goto 5, 3) := by decide +kernel
theorem dX4_goesIn_73 : decode cX4_goesIn 73 = .ok (.bipush (-6), 2) := by decide +kernel
theorem dX4_goesIn_75 : decode cX4_goesIn 75 = .ok (.ireturn, 1) := by decide +kernel
set_option maxRecDepth 20000 in
theorem ggX4_chargesIn_X4_in : GoodIn wsX4_chargesIn wsX4_in := goodIn_r _ [5] (by decide +kernel) (by decide +kernel)
set_option maxRecDepth 20000 in
theorem gX4_chargesIn_X4_in : GoodIn wsX4_chargesIn (va_wsS RX4 50 yX4_in wsX4_in) := goodIn_app (goodIn_of _ (by decide +kernel)) ggX4_chargesIn_X4_in
set_option maxRecDepth 20000 in
theorem ggX4_chargesIn_X4_putAside : GoodIn wsX4_chargesIn wsX4_putAside := goodIn_r _ [9, 10, 1, 51, 52, 53, 54, 55, 56, 57, 58, 59, 60, 61, 62, 63, 64] (by decide +kernel) (by decide +kernel)
set_option maxRecDepth 20000 in
theorem gX4_chargesIn_X4_putAside : GoodIn wsX4_chargesIn (wsV RX4 171 RX4 yX4_putAside wsX4_putAside) := goodIn_app (goodIn_of _ (by decide +kernel)) ggX4_chargesIn_X4_putAside
set_option maxRecDepth 20000 in
theorem ggX4_chargesIn_X4_passes : GoodIn wsX4_chargesIn wsX4_passes := goodIn_r _ [14, 15, 16, 17, 4, 18, 1, 19, 20, 21, 22, 23, 24, 25, 26, 27, 28, 29, 30, 31, 32, 33, 34, 35, 36, 37, 38, 39, 40, 41, 42, 43, 44, 45, 46, 51, 52, 53, 54, 55, 56, 57, 58, 59, 60, 61, 62, 63, 64] (by decide +kernel) (by decide +kernel)
set_option maxRecDepth 20000 in
theorem gX4_chargesIn_X4_passes : GoodIn wsX4_chargesIn (wsV RX4 159 RX4 yX4_passes wsX4_passes) := goodIn_app (goodIn_of _ (by decide +kernel)) ggX4_chargesIn_X4_passes
set_option maxRecDepth 20000 in
theorem ggX4_chargesIn_X4_takeBack : GoodIn wsX4_chargesIn wsX4_takeBack := goodIn_r _ [50, 1, 10, 51, 52, 53, 54, 55, 56, 57, 58, 59, 60, 61, 62, 63, 64] (by decide +kernel) (by decide +kernel)
set_option maxRecDepth 20000 in
theorem gX4_chargesIn_X4_takeBack : GoodIn wsX4_chargesIn (wsV RX4 174 RX4 yX4_takeBack wsX4_takeBack) := goodIn_app (goodIn_of _ (by decide +kernel)) ggX4_chargesIn_X4_takeBack
theorem dX4_chargesIn_0 : decode cX4_chargesIn 0 = .ok (.iload_n 1, 1) := by decide +kernel
theorem dX4_chargesIn_1 : decode cX4_chargesIn 1 = .ok (.iconst 1, 1) := by decide +kernel
theorem dX4_chargesIn_2 : decode cX4_chargesIn 2 = .ok (.bipush 30, 2) := by decide +kernel
theorem dX4_chargesIn_4 : decode cX4_chargesIn 4 = .ok (.invokestatic 50, 3) := by decide +kernel
theorem dX4_chargesIn_7 : decode cX4_chargesIn 7 = .ok (.ifCond .ne 6, 3) := by decide +kernel
theorem dX4_chargesIn_10 : decode cX4_chargesIn 10 = .ok (.bipush (-2), 2) := by decide +kernel
theorem dX4_chargesIn_12 : decode cX4_chargesIn 12 = .ok (.ireturn, 1) := by decide +kernel
theorem dX4_chargesIn_13 : decode cX4_chargesIn 13 = .ok (.aload_n 0, 1) := by decide +kernel
theorem dX4_chargesIn_14 : decode cX4_chargesIn 14 = .ok (.invokevirtual 171, 3) := by decide +kernel
theorem dX4_chargesIn_17 : decode cX4_chargesIn 17 = .ok (.aload_n 0, 1) := by decide +kernel
theorem dX4_chargesIn_18 : decode cX4_chargesIn 18 = .ok (.iload_n 1, 1) := by decide +kernel
theorem dX4_chargesIn_19 : decode cX4_chargesIn 19 = .ok (.invokevirtual 159, 3) := by decide +kernel
theorem dX4_chargesIn_22 : decode cX4_chargesIn 22 = .ok (.pop, 1) := by decide +kernel
theorem dX4_chargesIn_23 : decode cX4_chargesIn 23 = .ok (.aload_n 0, 1) := by decide +kernel
theorem dX4_chargesIn_24 : decode cX4_chargesIn 24 = .ok (.getfield 7, 3) := by decide +kernel
theorem dX4_chargesIn_27 : decode cX4_chargesIn 27 = .ok (.bipush 11, 2) := by decide +kernel
theorem dX4_chargesIn_29 : decode cX4_chargesIn 29 = .ok (.iaload, 1) := by decide +kernel
theorem dX4_chargesIn_30 : decode cX4_chargesIn 30 = .ok (.istore_n 2, 1) := by decide +kernel
theorem dX4_chargesIn_31 : decode cX4_chargesIn 31 = .ok (.aload_n 0, 1) := by decide +kernel
theorem dX4_chargesIn_32 : decode cX4_chargesIn 32 = .ok (.invokevirtual 174, 3) := by decide +kernel
theorem dX4_chargesIn_35 : decode cX4_chargesIn 35 = .ok (.iload_n 2, 1) := by decide +kernel
theorem dX4_chargesIn_36 : decode cX4_chargesIn 36 = .ok (.aload_n 0, 1) := by decide +kernel
theorem dX4_chargesIn_37 : decode cX4_chargesIn 37 = .ok (.getfield 7, 3) := by decide +kernel
theorem dX4_chargesIn_40 : decode cX4_chargesIn 40 = .ok (.bipush 11, 2) := by decide +kernel
theorem dX4_chargesIn_42 : decode cX4_chargesIn 42 = .ok (.iaload, 1) := by decide +kernel
theorem dX4_chargesIn_43 : decode cX4_chargesIn 43 = .ok (.isub, 1) := by decide +kernel
theorem dX4_chargesIn_44 : decode cX4_chargesIn 44 = .ok (.ireturn, 1) := by decide +kernel
set_option maxRecDepth 20000 in
theorem ggX4_append_X4_in : GoodIn wsX4_append wsX4_in := goodIn_r _ [6] (by decide +kernel) (by decide +kernel)
set_option maxRecDepth 20000 in
theorem gX4_append_X4_in : GoodIn wsX4_append (va_wsS RX4 50 yX4_in wsX4_in) := goodIn_app (goodIn_of _ (by decide +kernel)) ggX4_append_X4_in
theorem dX4_append_0 : decode cX4_append 0 = .ok (.iload_n 1, 1) := by decide +kernel
theorem dX4_append_1 : decode cX4_append 1 = .ok (.bipush 33, 2) := by decide +kernel
theorem dX4_append_3 : decode cX4_append 3 = .ok (.bipush 126, 2) := by decide +kernel
theorem dX4_append_5 : decode cX4_append 5 = .ok (.invokestatic 50, 3) := by decide +kernel
theorem dX4_append_8 : decode cX4_append 8 = .ok (.ifCond .ne 6, 3) := by decide +kernel
theorem dX4_append_11 : decode cX4_append 11 = .ok (.bipush (-2), 2) := by decide +kernel
theorem dX4_append_13 : decode cX4_append 13 = .ok (.ireturn, 1) := by decide +kernel
theorem dX4_append_14 : decode cX4_append 14 = .ok (.aload_n 0, 1) := by decide +kernel
theorem dX4_append_15 : decode cX4_append 15 = .ok (.getfield 177, 3) := by decide +kernel
theorem dX4_append_18 : decode cX4_append 18 = .ok (.bipush 80, 2) := by decide +kernel
theorem dX4_append_20 : decode cX4_append 20 = .ok (.if_icmp .ne 6, 3) := by decide +kernel
theorem dX4_append_23 : decode cX4_append 23 = .ok (.bipush (-4), 2) := by decide +kernel
theorem dX4_append_25 : decode cX4_append 25 = .ok (.ireturn, 1) := by decide +kernel
theorem dX4_append_26 : decode cX4_append 26 = .ok (.aload_n 0, 1) := by decide +kernel
theorem dX4_append_27 : decode cX4_append 27 = .ok (.getfield 29, 3) := by decide +kernel
theorem dX4_append_30 : decode cX4_append 30 = .ok (.aload_n 0, 1) := by decide +kernel
theorem dX4_append_31 : decode cX4_append 31 = .ok (.getfield 177, 3) := by decide +kernel
theorem dX4_append_34 : decode cX4_append 34 = .ok (.iload_n 1, 1) := by decide +kernel
theorem dX4_append_35 : decode cX4_append 35 = .ok (.i2c, 1) := by decide +kernel
theorem dX4_append_36 : decode cX4_append 36 = .ok (.castore, 1) := by decide +kernel
theorem dX4_append_37 : decode cX4_append 37 = .ok (.aload_n 0, 1) := by decide +kernel
theorem dX4_append_38 : decode cX4_append 38 = .ok (.dup, 1) := by decide +kernel
theorem dX4_append_39 : decode cX4_append 39 = .ok (.getfield 177, 3) := by decide +kernel
theorem dX4_append_42 : decode cX4_append 42 = .ok (.iconst 1, 1) := by decide +kernel
theorem dX4_append_43 : decode cX4_append 43 = .ok (.iadd, 1) := by decide +kernel
theorem dX4_append_44 : decode cX4_append 44 = .ok (.putfield 177, 3) := by decide +kernel
theorem dX4_append_47 : decode cX4_append 47 = .ok (.aload_n 0, 1) := by decide +kernel
theorem dX4_append_48 : decode cX4_append 48 = .ok (.getfield 177, 3) := by decide +kernel
theorem dX4_append_51 : decode cX4_append 51 = .ok (.ireturn, 1) := by decide +kernel
theorem dX4_clearText_0 : decode cX4_clearText 0 = .ok (.aload_n 0, 1) := by decide +kernel
theorem dX4_clearText_1 : decode cX4_clearText 1 = .ok (.getfield 177, 3) := by decide +kernel
theorem dX4_clearText_4 : decode cX4_clearText 4 = .ok (.istore_n 1, 1) := by decide +kernel
theorem dX4_clearText_5 : decode cX4_clearText 5 = .ok (.aload_n 0, 1) := by decide +kernel
theorem dX4_clearText_6 : decode cX4_clearText 6 = .ok (.iconst 0, 1) := by decide +kernel
theorem dX4_clearText_7 : decode cX4_clearText 7 = .ok (.putfield 177, 3) := by decide +kernel
theorem dX4_clearText_10 : decode cX4_clearText 10 = .ok (.iload_n 1, 1) := by decide +kernel
theorem dX4_clearText_11 : decode cX4_clearText 11 = .ok (.ireturn, 1) := by decide +kernel
theorem dX4_letter_0 : decode cX4_letter 0 = .ok (.aload_n 0, 1) := by decide +kernel
theorem dX4_letter_1 : decode cX4_letter 1 = .ok (.getfield 180, 3) := by decide +kernel
theorem dX4_letter_4 : decode cX4_letter 4 = .ok (.aload_n 0, 1) := by decide +kernel
theorem dX4_letter_5 : decode cX4_letter 5 = .ok (.getfield 177, 3) := by decide +kernel
theorem dX4_letter_8 : decode cX4_letter 8 = .ok (.if_icmp .ge 15, 3) := by decide +kernel
theorem dX4_letter_11 : decode cX4_letter 11 = .ok (.aload_n 0, 1) := by decide +kernel
theorem dX4_letter_12 : decode cX4_letter 12 = .ok (.getfield 29, 3) := by decide +kernel
theorem dX4_letter_15 : decode cX4_letter 15 = .ok (.aload_n 0, 1) := by decide +kernel
theorem dX4_letter_16 : decode cX4_letter 16 = .ok (.getfield 180, 3) := by decide +kernel
theorem dX4_letter_19 : decode cX4_letter 19 = .ok (.caload, 1) := by decide +kernel
theorem dX4_letter_20 : decode cX4_letter 20 = .ok (.goto 5, 3) := by decide +kernel
theorem dX4_letter_23 : decode cX4_letter 23 = .ok (.bipush (-6), 2) := by decide +kernel
theorem dX4_letter_25 : decode cX4_letter 25 = .ok (.ireturn, 1) := by decide +kernel
theorem dX4_wants_0 : decode cX4_wants 0 = .ok (.aload_n 0, 1) := by decide +kernel
theorem dX4_wants_1 : decode cX4_wants 1 = .ok (.getfield 183, 3) := by decide +kernel
theorem dX4_wants_4 : decode cX4_wants 4 = .ok (.bipush (-6), 2) := by decide +kernel
theorem dX4_wants_6 : decode cX4_wants 6 = .ok (.if_icmp .ne 30, 3) := by decide +kernel
theorem dX4_wants_9 : decode cX4_wants 9 = .ok (.aload_n 0, 1) := by decide +kernel
theorem dX4_wants_10 : decode cX4_wants 10 = .ok (.iload_n 1, 1) := by decide +kernel
theorem dX4_wants_11 : decode cX4_wants 11 = .ok (.ifCond .eq 8, 3) := by decide +kernel
theorem dX4_wants_14 : decode cX4_wants 14 = .ok (.bipush (-6), 2) := by decide +kernel
theorem dX4_wants_16 : decode cX4_wants 16 = .ok (.goto 7, 3) := by decide +kernel
theorem dX4_wants_19 : decode cX4_wants 19 = .ok (.aload_n 0, 1) := by decide +kernel
theorem dX4_wants_20 : decode cX4_wants 20 = .ok (.getfield 180, 3) := by decide +kernel
theorem dX4_wants_23 : decode cX4_wants 23 = .ok (.putfield 183, 3) := by decide +kernel
theorem dX4_wants_26 : decode cX4_wants 26 = .ok (.aload_n 0, 1) := by decide +kernel
theorem dX4_wants_27 : decode cX4_wants 27 = .ok (.dup, 1) := by decide +kernel
theorem dX4_wants_28 : decode cX4_wants 28 = .ok (.getfield 180, 3) := by decide +kernel
theorem dX4_wants_31 : decode cX4_wants 31 = .ok (.iconst 1, 1) := by decide +kernel
theorem dX4_wants_32 : decode cX4_wants 32 = .ok (.iadd, 1) := by decide +kernel
theorem dX4_wants_33 : decode cX4_wants 33 = .ok (.putfield 180, 3) := by decide +kernel
theorem dX4_wants_36 : decode cX4_wants 36 = .ok (.return_, 1) := by decide +kernel
set_option maxRecDepth 20000 in
theorem ggX4_figure_X4_letter : GoodIn wsX4_figure wsX4_letter := goodIn_r _ [5, 6, 7, 8, 17, 18, 19, 20, 21, 22, 23, 24, 25, 26, 27, 28, 29, 30] (by decide +kernel) (by decide +kernel)
set_option maxRecDepth 20000 in
theorem gX4_figure_X4_letter : GoodIn wsX4_figure (wsV RX4 186 RX4 yX4_letter wsX4_letter) := goodIn_app (goodIn_of _ (by decide +kernel)) ggX4_figure_X4_letter
set_option maxRecDepth 20000 in
theorem ggX4_figure_X4_in : GoodIn wsX4_figure wsX4_in := goodIn_r _ [11] (by decide +kernel) (by decide +kernel)
set_option maxRecDepth 20000 in
theorem gX4_figure_X4_in : GoodIn wsX4_figure (va_wsS RX4 50 yX4_in wsX4_in) := goodIn_app (goodIn_of _ (by decide +kernel)) ggX4_figure_X4_in
set_option maxRecDepth 20000 in
theorem ggX4_figure_X4_wants : GoodIn wsX4_figure wsX4_wants := goodIn_r _ [15, 16, 6, 17, 18, 19, 20, 21, 22, 23, 24, 25, 26, 27, 28, 29, 30] (by decide +kernel) (by decide +kernel)
set_option maxRecDepth 20000 in
theorem gX4_figure_X4_wants : GoodIn wsX4_figure (wsV RX4 189 RX4 yX4_wants wsX4_wants) := goodIn_app (goodIn_of _ (by decide +kernel)) ggX4_figure_X4_wants
theorem dX4_figure_0 : decode cX4_figure 0 = .ok (.aload_n 0, 1) := by decide +kernel
theorem dX4_figure_1 : decode cX4_figure 1 = .ok (.invokevirtual 186, 3) := by decide +kernel
theorem dX4_figure_4 : decode cX4_figure 4 = .ok (.bipush 48, 2) := by decide +kernel
theorem dX4_figure_6 : decode cX4_figure 6 = .ok (.isub, 1) := by decide +kernel
theorem dX4_figure_7 : decode cX4_figure 7 = .ok (.istore_n 3, 1) := by decide +kernel
theorem dX4_figure_8 : decode cX4_figure 8 = .ok (.aload_n 0, 1) := by decide +kernel
theorem dX4_figure_9 : decode cX4_figure 9 = .ok (.iload_n 3, 1) := by decide +kernel
theorem dX4_figure_10 : decode cX4_figure 10 = .ok (.iload_n 1, 1) := by decide +kernel
theorem dX4_figure_11 : decode cX4_figure 11 = .ok (.iload_n 2, 1) := by decide +kernel
theorem dX4_figure_12 : decode cX4_figure 12 = .ok (.invokestatic 50, 3) := by decide +kernel
theorem dX4_figure_15 : decode cX4_figure 15 = .ok (.invokevirtual 189, 3) := by decide +kernel
theorem dX4_figure_18 : decode cX4_figure 18 = .ok (.iload_n 3, 1) := by decide +kernel
theorem dX4_figure_19 : decode cX4_figure 19 = .ok (.ireturn, 1) := by decide +kernel
set_option maxRecDepth 20000 in
theorem ggX4_days_X4_figure : GoodIn wsX4_days wsX4_figure := goodIn_r _ [7, 8, 9, 10, 6, 11, 2, 12, 13, 14, 15, 16, 17, 18, 19, 20, 1, 21, 22, 23, 24, 25, 26, 27, 28, 29, 30, 31, 32, 33, 34] (by decide +kernel) (by decide +kernel)
set_option maxRecDepth 20000 in
theorem gX4_days_X4_figure : GoodIn wsX4_days (wsV RX4 193 RX4 yX4_figure wsX4_figure) := goodIn_app (goodIn_of _ (by decide +kernel)) ggX4_days_X4_figure
set_option maxRecDepth 20000 in
theorem ggX4_days_X4_letter : GoodIn wsX4_days wsX4_letter := goodIn_r _ [11, 2, 12, 13, 21, 22, 23, 24, 25, 26, 27, 28, 29, 30, 31, 32, 33, 34] (by decide +kernel) (by decide +kernel)
set_option maxRecDepth 20000 in
theorem gX4_days_X4_letter : GoodIn wsX4_days (wsV RX4 186 RX4 yX4_letter wsX4_letter) := goodIn_app (goodIn_of _ (by decide +kernel)) ggX4_days_X4_letter
set_option maxRecDepth 20000 in
theorem ggX4_days_X4_in : GoodIn wsX4_days wsX4_in := goodIn_r _ [16] (by decide +kernel) (by decide +kernel)
set_option maxRecDepth 20000 in
theorem gX4_days_X4_in : GoodIn wsX4_days (va_wsS RX4 50 yX4_in wsX4_in) := goodIn_app (goodIn_of _ (by decide +kernel)) ggX4_days_X4_in
theorem dX4_days_0 : decode cX4_days 0 = .ok (.aload_n 0, 1) := by decide +kernel
theorem dX4_days_1 : decode cX4_days 1 = .ok (.iconst 1, 1) := by decide +kernel
theorem dX4_days_2 : decode cX4_days 2 = .ok (.bipush 9, 2) := by decide +kernel
theorem dX4_days_4 : decode cX4_days 4 = .ok (.invokevirtual 193, 3) := by decide +kernel
theorem dX4_days_7 : decode cX4_days 7 = .ok (.istore_n 1, 1) := by decide +kernel
theorem dX4_days_8 : decode cX4_days 8 = .ok (.aload_n 0, 1) := by decide +kernel
theorem dX4_days_9 : decode cX4_days 9 = .ok (.invokevirtual 186, 3) := by decide +kernel
theorem dX4_days_12 : decode cX4_days 12 = .ok (.bipush 48, 2) := by decide +kernel
theorem dX4_days_14 : decode cX4_days 14 = .ok (.isub, 1) := by decide +kernel
theorem dX4_days_15 : decode cX4_days 15 = .ok (.istore_n 2, 1) := by decide +kernel
theorem dX4_days_16 : decode cX4_days 16 = .ok (.aload_n 0, 1) := by decide +kernel
theorem dX4_days_17 : decode cX4_days 17 = .ok (.getfield 183, 3) := by decide +kernel
theorem dX4_days_20 : decode cX4_days 20 = .ok (.bipush (-6), 2) := by decide +kernel
theorem dX4_days_22 : decode cX4_days 22 = .ok (.if_icmp .ne 41, 3) := by decide +kernel
theorem dX4_days_25 : decode cX4_days 25 = .ok (.iload_n 2, 1) := by decide +kernel
theorem dX4_days_26 : decode cX4_days 26 = .ok (.iconst 0, 1) := by decide +kernel
theorem dX4_days_27 : decode cX4_days 27 = .ok (.bipush 9, 2) := by decide +kernel
theorem dX4_days_29 : decode cX4_days 29 = .ok (.invokestatic 50, 3) := by decide +kernel
theorem dX4_days_32 : decode cX4_days 32 = .ok (.ifCond .eq 31, 3) := by decide +kernel
theorem dX4_days_35 : decode cX4_days 35 = .ok (.bipush 10, 2) := by decide +kernel
theorem dX4_days_37 : decode cX4_days 37 = .ok (.iload_n 1, 1) := by decide +kernel
theorem dX4_days_38 : decode cX4_days 38 = .ok (.imul, 1) := by decide +kernel
theorem dX4_days_39 : decode cX4_days 39 = .ok (.iload_n 2, 1) := by decide +kernel
theorem dX4_days_40 : decode cX4_days 40 = .ok (.iadd, 1) := by decide +kernel
theorem dX4_days_41 : decode cX4_days 41 = .ok (.bipush 30, 2) := by decide +kernel
theorem dX4_days_43 : decode cX4_days 43 = .ok (.if_icmp .gt 20, 3) := by decide +kernel
theorem dX4_days_46 : decode cX4_days 46 = .ok (.aload_n 0, 1) := by decide +kernel
theorem dX4_days_47 : decode cX4_days 47 = .ok (.dup, 1) := by decide +kernel
theorem dX4_days_48 : decode cX4_days 48 = .ok (.getfield 180, 3) := by decide +kernel
theorem dX4_days_51 : decode cX4_days 51 = .ok (.iconst 1, 1) := by decide +kernel
theorem dX4_days_52 : decode cX4_days 52 = .ok (.iadd, 1) := by decide +kernel
theorem dX4_days_53 : decode cX4_days 53 = .ok (.putfield 180, 3) := by decide +kernel
theorem dX4_days_56 : decode cX4_days 56 = .ok (.bipush 10, 2) := by decide +kernel
theorem dX4_days_58 : decode cX4_days 58 = .ok (.iload_n 1, 1) := by decide +kernel
theorem dX4_days_59 : decode cX4_days 59 = .ok (.imul, 1) := by decide +kernel
theorem dX4_days_60 : decode cX4_days 60 = .ok (.iload_n 2, 1) := by decide +kernel
theorem dX4_days_61 : decode cX4_days 61 = .ok (.iadd, 1) := by decide +kernel
theorem dX4_days_62 : decode cX4_days 62 = .ok (.ireturn, 1) := by decide +kernel
theorem dX4_days_63 : decode cX4_days 63 = .ok (.iload_n 1, 1) := by decide +kernel
theorem dX4_days_64 : decode cX4_days 64 = .ok (.ireturn, 1) := by decide +kernel
set_option maxRecDepth 20000 in
theorem ggX4_size_X4_letter : GoodIn wsX4_size wsX4_letter := goodIn_r _ [5, 6, 7, 8, 14, 15, 16, 17, 18, 19, 20, 21, 22, 23, 24, 25, 26, 27] (by decide +kernel) (by decide +kernel)
set_option maxRecDepth 20000 in
theorem gX4_size_X4_letter : GoodIn wsX4_size (wsV RX4 186 RX4 yX4_letter wsX4_letter) := goodIn_app (goodIn_of _ (by decide +kernel)) ggX4_size_X4_letter
set_option maxRecDepth 20000 in
theorem ggX4_size_X4_wants : GoodIn wsX4_size wsX4_wants := goodIn_r _ [12, 13, 6, 14, 15, 16, 17, 18, 19, 20, 21, 22, 23, 24, 25, 26, 27] (by decide +kernel) (by decide +kernel)
set_option maxRecDepth 20000 in
theorem gX4_size_X4_wants : GoodIn wsX4_size (wsV RX4 189 RX4 yX4_wants wsX4_wants) := goodIn_app (goodIn_of _ (by decide +kernel)) ggX4_size_X4_wants
theorem dX4_size_0 : decode cX4_size 0 = .ok (.aload_n 0, 1) := by decide +kernel
theorem dX4_size_1 : decode cX4_size 1 = .ok (.invokevirtual 186, 3) := by decide +kernel
theorem dX4_size_4 : decode cX4_size 4 = .ok (.istore_n 1, 1) := by decide +kernel
theorem dX4_size_5 : decode cX4_size 5 = .ok (.aload_n 0, 1) := by decide +kernel
theorem dX4_size_6 : decode cX4_size 6 = .ok (.iload_n 1, 1) := by decide +kernel
theorem dX4_size_7 : decode cX4_size 7 = .ok (.bipush 115, 2) := by decide +kernel
theorem dX4_size_9 : decode cX4_size 9 = .ok (.if_icmp .eq 15, 3) := by decide +kernel
theorem dX4_size_12 : decode cX4_size 12 = .ok (.iload_n 1, 1) := by decide +kernel
theorem dX4_size_13 : decode cX4_size 13 = .ok (.bipush 109, 2) := by decide +kernel
theorem dX4_size_15 : decode cX4_size 15 = .ok (.if_icmp .eq 9, 3) := by decide +kernel
theorem dX4_size_18 : decode cX4_size 18 = .ok (.iload_n 1, 1) := by decide +kernel
theorem dX4_size_19 : decode cX4_size 19 = .ok (.bipush 108, 2) := by decide +kernel
theorem dX4_size_21 : decode cX4_size 21 = .ok (.if_icmp .ne 7, 3) := by decide +kernel
theorem dX4_size_24 : decode cX4_size 24 = .ok (.iconst 1, 1) := by decide +kernel
theorem dX4_size_25 : decode cX4_size 25 = .ok (.goto 4, 3) := by decide +kernel
theorem dX4_size_28 : decode cX4_size 28 = .ok (.iconst 0, 1) := by decide +kernel
theorem dX4_size_29 : decode cX4_size 29 = .ok (.invokevirtual 189, 3) := by decide +kernel
theorem dX4_size_32 : decode cX4_size 32 = .ok (.iload_n 1, 1) := by decide +kernel
theorem dX4_size_33 : decode cX4_size 33 = .ok (.bipush 115, 2) := by decide +kernel
theorem dX4_size_35 : decode cX4_size 35 = .ok (.if_icmp .ne 7, 3) := by decide +kernel
theorem dX4_size_38 : decode cX4_size 38 = .ok (.iconst 0, 1) := by decide +kernel
theorem dX4_size_39 : decode cX4_size 39 = .ok (.goto 14, 3) := by decide +kernel
theorem dX4_size_42 : decode cX4_size 42 = .ok (.iload_n 1, 1) := by decide +kernel
theorem dX4_size_43 : decode cX4_size 43 = .ok (.bipush 109, 2) := by decide +kernel
theorem dX4_size_45 : decode cX4_size 45 = .ok (.if_icmp .ne 7, 3) := by decide +kernel
theorem dX4_size_48 : decode cX4_size 48 = .ok (.iconst 1, 1) := by decide +kernel
theorem dX4_size_49 : decode cX4_size 49 = .ok (.goto 4, 3) := by decide +kernel
theorem dX4_size_52 : decode cX4_size 52 = .ok (.iconst 2, 1) := by decide +kernel
theorem dX4_size_53 : decode cX4_size 53 = .ok (.ireturn, 1) := by decide +kernel
set_option maxRecDepth 20000 in
theorem ggX4_readCommand_X4_letter : GoodIn wsX4_readCommand wsX4_letter := goodIn_r _ [7, 8, 9, 10, 31, 32, 33, 34, 35, 36, 37, 38, 39, 40, 41, 42, 43, 44] (by decide +kernel) (by decide +kernel)
set_option maxRecDepth 20000 in
theorem gX4_readCommand_X4_letter : GoodIn wsX4_readCommand (wsV RX4 186 RX4 yX4_letter wsX4_letter) := goodIn_app (goodIn_of _ (by decide +kernel)) ggX4_readCommand_X4_letter
set_option maxRecDepth 20000 in
theorem ggX4_readCommand_X4_wants : GoodIn wsX4_readCommand wsX4_wants := goodIn_r _ [14, 15, 8, 31, 32, 33, 34, 35, 36, 37, 38, 39, 40, 41, 42, 43, 44] (by decide +kernel) (by decide +kernel)
set_option maxRecDepth 20000 in
theorem gX4_readCommand_X4_wants : GoodIn wsX4_readCommand (wsV RX4 189 RX4 yX4_wants wsX4_wants) := goodIn_app (goodIn_of _ (by decide +kernel)) ggX4_readCommand_X4_wants
set_option maxRecDepth 20000 in
theorem ggX4_readCommand_X4_figure : GoodIn wsX4_readCommand wsX4_figure := goodIn_r _ [19, 3, 4, 5, 6, 7, 8, 9, 10, 20, 21, 22, 11, 12, 13, 14, 15, 31, 32, 33, 34, 35, 36, 37, 38, 39, 40, 41, 42, 43, 44] (by decide +kernel) (by decide +kernel)
set_option maxRecDepth 20000 in
theorem gX4_readCommand_X4_figure : GoodIn wsX4_readCommand (wsV RX4 193 RX4 yX4_figure wsX4_figure) := goodIn_app (goodIn_of _ (by decide +kernel)) ggX4_readCommand_X4_figure
set_option maxRecDepth 20000 in
theorem ggX4_readCommand_X4_size : GoodIn wsX4_readCommand wsX4_size := goodIn_r _ [26, 3, 4, 5, 6, 7, 8, 9, 10, 11, 12, 13, 14, 15, 31, 32, 33, 34, 35, 36, 37, 38, 39, 40, 41, 42, 43, 44] (by decide +kernel) (by decide +kernel)
set_option maxRecDepth 20000 in
theorem gX4_readCommand_X4_size : GoodIn wsX4_readCommand (wsV RX4 196 RX4 yX4_size wsX4_size) := goodIn_app (goodIn_of _ (by decide +kernel)) ggX4_readCommand_X4_size
set_option maxRecDepth 20000 in
theorem ggX4_readCommand_X4_days : GoodIn wsX4_readCommand wsX4_days := goodIn_r _ [30, 15, 8, 16, 17, 18, 6, 19, 3, 4, 5, 7, 9, 10, 20, 21, 22, 11, 12, 13, 14, 31, 32, 33, 34, 35, 36, 37, 38, 39, 40, 41, 42, 43, 44] (by decide +kernel) (by decide +kernel)
set_option maxRecDepth 20000 in
theorem gX4_readCommand_X4_days : GoodIn wsX4_readCommand (wsV RX4 199 RX4 yX4_days wsX4_days) := goodIn_app (goodIn_of _ (by decide +kernel)) ggX4_readCommand_X4_days
theorem dX4_readCommand_0 : decode cX4_readCommand 0 = .ok (.aload_n 0, 1) := by decide +kernel
theorem dX4_readCommand_1 : decode cX4_readCommand 1 = .ok (.invokevirtual 186, 3) := by decide +kernel
theorem dX4_readCommand_4 : decode cX4_readCommand 4 = .ok (.istore_n 1, 1) := by decide +kernel
theorem dX4_readCommand_5 : decode cX4_readCommand 5 = .ok (.aload_n 0, 1) := by decide +kernel
theorem dX4_readCommand_6 : decode cX4_readCommand 6 = .ok (.iload_n 1, 1) := by decide +kernel
theorem dX4_readCommand_7 : decode cX4_readCommand 7 = .ok (.bipush 97, 2) := by decide +kernel
theorem dX4_readCommand_9 : decode cX4_readCommand 9 = .ok (.if_icmp .eq 27, 3) := by decide +kernel
theorem dX4_readCommand_12 : decode cX4_readCommand 12 = .ok (.iload_n 1, 1) := by decide +kernel
theorem dX4_readCommand_13 : decode cX4_readCommand 13 = .ok (.bipush 112, 2) := by decide +kernel
theorem dX4_readCommand_15 : decode cX4_readCommand 15 = .ok (.if_icmp .eq 21, 3) := by decide +kernel
theorem dX4_readCommand_18 : decode cX4_readCommand 18 = .ok (.iload_n 1, 1) := by decide +kernel
theorem dX4_readCommand_19 : decode cX4_readCommand 19 = .ok (.bipush 120, 2) := by decide +kernel
theorem dX4_readCommand_21 : decode cX4_readCommand 21 = .ok (.if_icmp .eq 15, 3) := by decide +kernel
theorem dX4_readCommand_24 : decode cX4_readCommand 24 = .ok (.iload_n 1, 1) := by decide +kernel
theorem dX4_readCommand_25 : decode cX4_readCommand 25 = .ok (.bipush 109, 2) := by decide +kernel
theorem dX4_readCommand_27 : decode cX4_readCommand 27 = .ok (.if_icmp .eq 9, 3) := by decide +kernel
theorem dX4_readCommand_30 : decode cX4_readCommand 30 = .ok (.iload_n 1, 1) := by decide +kernel
theorem dX4_readCommand_31 : decode cX4_readCommand 31 = .ok (.bipush 100, 2) := by decide +kernel
theorem dX4_readCommand_33 : decode cX4_readCommand 33 = .ok (.if_icmp .ne 7, 3) := by decide +kernel
theorem dX4_readCommand_36 : decode cX4_readCommand 36 = .ok (.iconst 1, 1) := by decide +kernel
theorem dX4_readCommand_37 : decode cX4_readCommand 37 = .ok (.goto 4, 3) := by decide +kernel
theorem dX4_readCommand_40 : decode cX4_readCommand 40 = .ok (.iconst 0, 1) := by decide +kernel
theorem dX4_readCommand_41 : decode cX4_readCommand 41 = .ok (.invokevirtual 189, 3) := by decide +kernel
theorem dX4_readCommand_44 : decode cX4_readCommand 44 = .ok (.iconst 0, 1) := by decide +kernel
theorem dX4_readCommand_45 : decode cX4_readCommand 45 = .ok (.istore_n 2, 1) := by decide +kernel
theorem dX4_readCommand_46 : decode cX4_readCommand 46 = .ok (.iconst 0, 1) := by decide +kernel
theorem dX4_readCommand_47 : decode cX4_readCommand 47 = .ok (.istore_n 3, 1) := by decide +kernel
theorem dX4_readCommand_48 : decode cX4_readCommand 48 = .ok (.iload_n 1, 1) := by decide +kernel
theorem dX4_readCommand_49 : decode cX4_readCommand 49 = .ok (.bipush 97, 2) := by decide +kernel
theorem dX4_readCommand_51 : decode cX4_readCommand 51 = .ok (.if_icmp .ne 19, 3) := by decide +kernel
theorem dX4_readCommand_54 : decode cX4_readCommand 54 = .ok (.aload_n 0, 1) := by decide +kernel
theorem dX4_readCommand_55 : decode cX4_readCommand 55 = .ok (.iconst 0, 1) := by decide +kernel
theorem dX4_readCommand_56 : decode cX4_readCommand 56 = .ok (.bipush 9, 2) := by decide +kernel
theorem dX4_readCommand_58 : decode cX4_readCommand 58 = .ok (.invokevirtual 193, 3) := by decide +kernel
theorem dX4_readCommand_61 : decode cX4_readCommand 61 = .ok (.istore_n 2, 1) := by decide +kernel
theorem dX4_readCommand_62 : decode cX4_readCommand 62 = .ok (.aload_n 0, 1) := by decide +kernel
theorem dX4_readCommand_63 : decode cX4_readCommand 63 = .ok (.invokevirtual 196, 3) := by decide +kernel
theorem dX4_readCommand_66 : decode cX4_readCommand 66 = .ok (.istore_n 3, 1) := by decide +kernel
theorem dX4_readCommand_67 : decode cX4_readCommand 67 = .ok (.goto 76, 3) := by decide +kernel
theorem dX4_readCommand_70 : decode cX4_readCommand 70 = .ok (.iload_n 1, 1) := by decide +kernel
theorem dX4_readCommand_71 : decode cX4_readCommand 71 = .ok (.bipush 100, 2) := by decide +kernel
theorem dX4_readCommand_73 : decode cX4_readCommand 73 = .ok (.if_icmp .ne 11, 3) := by decide +kernel
theorem dX4_readCommand_76 : decode cX4_readCommand 76 = .ok (.aload_n 0, 1) := by decide +kernel
theorem dX4_readCommand_77 : decode cX4_readCommand 77 = .ok (.invokevirtual 199, 3) := by decide +kernel
theorem dX4_readCommand_80 : decode cX4_readCommand 80 = .ok (.istore_n 2, 1) := by decide +kernel
theorem dX4_readCommand_81 : decode cX4_readCommand 81 = .ok (.goto 62, 3) := by decide +kernel
theorem dX4_readCommand_84 : decode cX4_readCommand 84 = .ok (.iconst 0, 1) := by decide +kernel
theorem dX4_readCommand_85 : decode cX4_readCommand 85 = .ok (.istore 4, 2) := by decide +kernel
theorem dX4_readCommand_87 : decode cX4_readCommand 87 = .ok (.iload 4, 2) := by decide +kernel
theorem dX4_readCommand_89 : decode cX4_readCommand 89 = .ok (.iconst 4, 1) := by decide +kernel
theorem dX4_readCommand_90 : decode cX4_readCommand 90 = .ok (.if_icmp .ge 22, 3) := by decide +kernel
theorem dX4_readCommand_93 : decode cX4_readCommand 93 = .ok (.bipush 10, 2) := by decide +kernel
theorem dX4_readCommand_95 : decode cX4_readCommand 95 = .ok (.iload_n 2, 1) := by decide +kernel
theorem dX4_readCommand_96 : decode cX4_readCommand 96 = .ok (.imul, 1) := by decide +kernel
theorem dX4_readCommand_97 : decode cX4_readCommand 97 = .ok (.aload_n 0, 1) := by decide +kernel
theorem dX4_readCommand_98 : decode cX4_readCommand 98 = .ok (.iconst 0, 1) := by decide +kernel
theorem dX4_readCommand_99 : decode cX4_readCommand 99 = .ok (.bipush 9, 2) := by decide +kernel
theorem dX4_readCommand_101 : decode cX4_readCommand 101 = .ok (.invokevirtual 193, 3) := by decide +kernel
theorem dX4_readCommand_104 : decode cX4_readCommand 104 = .ok (.iadd, 1) := by decide +kernel
theorem dX4_readCommand_105 : decode cX4_readCommand 105 = .ok (.istore_n 2, 1) := by decide +kernel
theorem dX4_readCommand_106 : decode cX4_readCommand 106 = .ok (.iinc 4 1, 3) := by decide +kernel
theorem dX4_readCommand_109 : decode cX4_readCommand 109 = .ok (.goto (-22), 3) := by decide +kernel
theorem dX4_readCommand_112 : decode cX4_readCommand 112 = .ok (.iload_n 1, 1) := by decide +kernel
theorem dX4_readCommand_113 : decode cX4_readCommand 113 = .ok (.bipush 109, 2) := by decide +kernel
theorem dX4_readCommand_115 : decode cX4_readCommand 115 = .ok (.if_icmp .ne 28, 3) := by decide +kernel
theorem dX4_readCommand_118 : decode cX4_readCommand 118 = .ok (.aload_n 0, 1) := by decide +kernel
theorem dX4_readCommand_119 : decode cX4_readCommand 119 = .ok (.aload_n 0, 1) := by decide +kernel
theorem dX4_readCommand_120 : decode cX4_readCommand 120 = .ok (.invokevirtual 186, 3) := by decide +kernel
theorem dX4_readCommand_123 : decode cX4_readCommand 123 = .ok (.bipush 62, 2) := by decide +kernel
theorem dX4_readCommand_125 : decode cX4_readCommand 125 = .ok (.if_icmp .ne 7, 3) := by decide +kernel
theorem dX4_readCommand_128 : decode cX4_readCommand 128 = .ok (.iconst 1, 1) := by decide +kernel
theorem dX4_readCommand_129 : decode cX4_readCommand 129 = .ok (.goto 4, 3) := by decide +kernel
theorem dX4_readCommand_132 : decode cX4_readCommand 132 = .ok (.iconst 0, 1) := by decide +kernel
theorem dX4_readCommand_133 : decode cX4_readCommand 133 = .ok (.invokevirtual 189, 3) := by decide +kernel
theorem dX4_readCommand_136 : decode cX4_readCommand 136 = .ok (.aload_n 0, 1) := by decide +kernel
theorem dX4_readCommand_137 : decode cX4_readCommand 137 = .ok (.iconst 0, 1) := by decide +kernel
theorem dX4_readCommand_138 : decode cX4_readCommand 138 = .ok (.iconst 5, 1) := by decide +kernel
theorem dX4_readCommand_139 : decode cX4_readCommand 139 = .ok (.invokevirtual 193, 3) := by decide +kernel
theorem dX4_readCommand_142 : decode cX4_readCommand 142 = .ok (.istore_n 3, 1) := by decide +kernel
theorem dX4_readCommand_143 : decode cX4_readCommand 143 = .ok (.aload_n 0, 1) := by decide +kernel
theorem dX4_readCommand_144 : decode cX4_readCommand 144 = .ok (.getfield 33, 3) := by decide +kernel
theorem dX4_readCommand_147 : decode cX4_readCommand 147 = .ok (.iconst 3, 1) := by decide +kernel
theorem dX4_readCommand_148 : decode cX4_readCommand 148 = .ok (.aload_n 0, 1) := by decide +kernel
theorem dX4_readCommand_149 : decode cX4_readCommand 149 = .ok (.getfield 202, 3) := by decide +kernel
theorem dX4_readCommand_152 : decode cX4_readCommand 152 = .ok (.imul, 1) := by decide +kernel
theorem dX4_readCommand_153 : decode cX4_readCommand 153 = .ok (.iload_n 1, 1) := by decide +kernel
theorem dX4_readCommand_154 : decode cX4_readCommand 154 = .ok (.iastore, 1) := by decide +kernel
theorem dX4_readCommand_155 : decode cX4_readCommand 155 = .ok (.aload_n 0, 1) := by decide +kernel
theorem dX4_readCommand_156 : decode cX4_readCommand 156 = .ok (.getfield 33, 3) := by decide +kernel
theorem dX4_readCommand_159 : decode cX4_readCommand 159 = .ok (.iconst 3, 1) := by decide +kernel
theorem dX4_readCommand_160 : decode cX4_readCommand 160 = .ok (.aload_n 0, 1) := by decide +kernel
theorem dX4_readCommand_161 : decode cX4_readCommand 161 = .ok (.getfield 202, 3) := by decide +kernel
theorem dX4_readCommand_164 : decode cX4_readCommand 164 = .ok (.imul, 1) := by decide +kernel
theorem dX4_readCommand_165 : decode cX4_readCommand 165 = .ok (.iconst 1, 1) := by decide +kernel
theorem dX4_readCommand_166 : decode cX4_readCommand 166 = .ok (.iadd, 1) := by decide +kernel
theorem dX4_readCommand_167 : decode cX4_readCommand 167 = .ok (.iload_n 2, 1) := by decide +kernel
theorem dX4_readCommand_168 : decode cX4_readCommand 168 = .ok (.iastore, 1) := by decide +kernel
theorem dX4_readCommand_169 : decode cX4_readCommand 169 = .ok (.aload_n 0, 1) := by decide +kernel
theorem dX4_readCommand_170 : decode cX4_readCommand 170 = .ok (.getfield 33, 3) := by decide +kernel
theorem dX4_readCommand_173 : decode cX4_readCommand 173 = .ok (.iconst 3, 1) := by decide +kernel
theorem dX4_readCommand_174 : decode cX4_readCommand 174 = .ok (.aload_n 0, 1) := by decide +kernel
theorem dX4_readCommand_175 : decode cX4_readCommand 175 = .ok (.getfield 202, 3) := by decide +kernel
theorem dX4_readCommand_178 : decode cX4_readCommand 178 = .ok (.imul, 1) := by decide +kernel
theorem dX4_readCommand_179 : decode cX4_readCommand 179 = .ok (.iconst 2, 1) := by decide +kernel
theorem dX4_readCommand_180 : decode cX4_readCommand 180 = .ok (.iadd, 1) := by decide +kernel
theorem dX4_readCommand_181 : decode cX4_readCommand 181 = .ok (.iload_n 3, 1) := by decide +kernel
theorem dX4_readCommand_182 : decode cX4_readCommand 182 = .ok (.iastore, 1) := by decide +kernel
theorem dX4_readCommand_183 : decode cX4_readCommand 183 = .ok (.aload_n 0, 1) := by decide +kernel
theorem dX4_readCommand_184 : decode cX4_readCommand 184 = .ok (.dup, 1) := by decide +kernel
theorem dX4_readCommand_185 : decode cX4_readCommand 185 = .ok (.getfield 202, 3) := by decide +kernel
theorem dX4_readCommand_188 : decode cX4_readCommand 188 = .ok (.iconst 1, 1) := by decide +kernel
theorem dX4_readCommand_189 : decode cX4_readCommand 189 = .ok (.iadd, 1) := by decide +kernel
theorem dX4_readCommand_190 : decode cX4_readCommand 190 = .ok (.putfield 202, 3) := by decide +kernel
theorem dX4_readCommand_193 : decode cX4_readCommand 193 = .ok (.return_, 1) := by decide +kernel
set_option maxRecDepth 20000 in
theorem ggX4_errorPosition_X4_readCommand : GoodIn wsX4_errorPosition wsX4_readCommand := goodIn_r _ [9, 10, 1, 11, 12, 13, 8, 14, 2, 4, 15, 16, 17, 18, 19, 3, 20, 21, 22, 23, 24, 25, 26, 27, 28, 29, 30, 31, 32, 33, 34, 35, 36, 37, 38, 39, 40, 41, 42, 43, 44, 45, 46, 47, 48] (by decide +kernel) (by decide +kernel)
set_option maxRecDepth 20000 in
theorem gX4_errorPosition_X4_readCommand : GoodIn wsX4_errorPosition (wsV RX4 205 RX4 yX4_readCommand wsX4_readCommand) := goodIn_app (goodIn_of _ (by decide +kernel)) ggX4_errorPosition_X4_readCommand
set_option maxRecDepth 20000 in
theorem ggX4_errorPosition_X4_letter : GoodIn wsX4_errorPosition wsX4_letter := goodIn_r _ [14, 2, 4, 15, 35, 36, 37, 38, 39, 40, 41, 42, 43, 44, 45, 46, 47, 48] (by decide +kernel) (by decide +kernel)
set_option maxRecDepth 20000 in
theorem gX4_errorPosition_X4_letter : GoodIn wsX4_errorPosition (wsV RX4 186 RX4 yX4_letter wsX4_letter) := goodIn_app (goodIn_of _ (by decide +kernel)) ggX4_errorPosition_X4_letter
set_option maxRecDepth 20000 in
theorem ggX4_errorPosition_X4_wants : GoodIn wsX4_errorPosition wsX4_wants := goodIn_r _ [19, 3, 2, 35, 36, 37, 38, 39, 40, 41, 42, 43, 44, 45, 46, 47, 48] (by decide +kernel) (by decide +kernel)
set_option maxRecDepth 20000 in
theorem gX4_errorPosition_X4_wants : GoodIn wsX4_errorPosition (wsV RX4 189 RX4 yX4_wants wsX4_wants) := goodIn_app (goodIn_of _ (by decide +kernel)) ggX4_errorPosition_X4_wants
theorem dX4_errorPosition_0 : decode cX4_errorPosition 0 = .ok (.aload_n 0, 1) := by decide +kernel
theorem dX4_errorPosition_1 : decode cX4_errorPosition 1 = .ok (.iconst 0, 1) := by decide +kernel
theorem dX4_errorPosition_2 : decode cX4_errorPosition 2 = .ok (.putfield 202, 3) := by decide +kernel
theorem dX4_errorPosition_5 : decode cX4_errorPosition 5 = .ok (.aload_n 0, 1) := by decide +kernel
theorem dX4_errorPosition_6 : decode cX4_errorPosition 6 = .ok (.iconst 0, 1) := by decide +kernel
theorem dX4_errorPosition_7 : decode cX4_errorPosition 7 = .ok (.putfield 180, 3) := by decide +kernel
theorem dX4_errorPosition_10 : decode cX4_errorPosition 10 = .ok (.aload_n 0, 1) := by decide +kernel
theorem dX4_errorPosition_11 : decode cX4_errorPosition 11 = .ok (.bipush (-6), 2) := by decide +kernel
theorem dX4_errorPosition_13 : decode cX4_errorPosition 13 = .ok (.putfield 183, 3) := by decide +kernel
theorem dX4_errorPosition_16 : decode cX4_errorPosition 16 = .ok (.iconst 1, 1) := by decide +kernel
theorem dX4_errorPosition_17 : decode cX4_errorPosition 17 = .ok (.istore_n 1, 1) := by decide +kernel
theorem dX4_errorPosition_18 : decode cX4_errorPosition 18 = .ok (.iload_n 1, 1) := by decide +kernel
theorem dX4_errorPosition_19 : decode cX4_errorPosition 19 = .ok (.ifCond .eq 73, 3) := by decide +kernel
theorem dX4_errorPosition_22 : decode cX4_errorPosition 22 = .ok (.aload_n 0, 1) := by decide +kernel
theorem dX4_errorPosition_23 : decode cX4_errorPosition 23 = .ok (.invokevirtual 205, 3) := by decide +kernel
theorem dX4_errorPosition_26 : decode cX4_errorPosition 26 = .ok (.aload_n 0, 1) := by decide +kernel
theorem dX4_errorPosition_27 : decode cX4_errorPosition 27 = .ok (.getfield 183, 3) := by decide +kernel
theorem dX4_errorPosition_30 : decode cX4_errorPosition 30 = .ok (.bipush (-6), 2) := by decide +kernel
theorem dX4_errorPosition_32 : decode cX4_errorPosition 32 = .ok (.if_icmp .ne 18, 3) := by decide +kernel
theorem dX4_errorPosition_35 : decode cX4_errorPosition 35 = .ok (.aload_n 0, 1) := by decide +kernel
theorem dX4_errorPosition_36 : decode cX4_errorPosition 36 = .ok (.getfield 180, 3) := by decide +kernel
theorem dX4_errorPosition_39 : decode cX4_errorPosition 39 = .ok (.aload_n 0, 1) := by decide +kernel
theorem dX4_errorPosition_40 : decode cX4_errorPosition 40 = .ok (.getfield 177, 3) := by decide +kernel
theorem dX4_errorPosition_43 : decode cX4_errorPosition 43 = .ok (.if_icmp .ge 7, 3) := by decide +kernel
theorem dX4_errorPosition_46 : decode cX4_errorPosition 46 = .ok (.iconst 1, 1) := by decide +kernel
theorem dX4_errorPosition_47 : decode cX4_errorPosition 47 = .ok (.goto 4, 3) := by decide +kernel
theorem dX4_errorPosition_50 : decode cX4_errorPosition 50 = .ok (.iconst 0, 1) := by decide +kernel
theorem dX4_errorPosition_51 : decode cX4_errorPosition 51 = .ok (.istore_n 1, 1) := by decide +kernel
theorem dX4_errorPosition_52 : decode cX4_errorPosition 52 = .ok (.iload_n 1, 1) := by decide +kernel
theorem dX4_errorPosition_53 : decode cX4_errorPosition 53 = .ok (.ifCond .eq (-35), 3) := by decide +kernel
theorem dX4_errorPosition_56 : decode cX4_errorPosition 56 = .ok (.aload_n 0, 1) := by decide +kernel
theorem dX4_errorPosition_57 : decode cX4_errorPosition 57 = .ok (.aload_n 0, 1) := by decide +kernel
theorem dX4_errorPosition_58 : decode cX4_errorPosition 58 = .ok (.invokevirtual 186, 3) := by decide +kernel
theorem dX4_errorPosition_61 : decode cX4_errorPosition 61 = .ok (.bipush 59, 2) := by decide +kernel
theorem dX4_errorPosition_63 : decode cX4_errorPosition 63 = .ok (.if_icmp .ne 7, 3) := by decide +kernel
theorem dX4_errorPosition_66 : decode cX4_errorPosition 66 = .ok (.iconst 1, 1) := by decide +kernel
theorem dX4_errorPosition_67 : decode cX4_errorPosition 67 = .ok (.goto 4, 3) := by decide +kernel
theorem dX4_errorPosition_70 : decode cX4_errorPosition 70 = .ok (.iconst 0, 1) := by decide +kernel
theorem dX4_errorPosition_71 : decode cX4_errorPosition 71 = .ok (.invokevirtual 189, 3) := by decide +kernel
theorem dX4_errorPosition_74 : decode cX4_errorPosition 74 = .ok (.aload_n 0, 1) := by decide +kernel
theorem dX4_errorPosition_75 : decode cX4_errorPosition 75 = .ok (.getfield 183, 3) := by decide +kernel
theorem dX4_errorPosition_78 : decode cX4_errorPosition 78 = .ok (.bipush (-6), 2) := by decide +kernel
theorem dX4_errorPosition_80 : decode cX4_errorPosition 80 = .ok (.if_icmp .ne 7, 3) := by decide +kernel
theorem dX4_errorPosition_83 : decode cX4_errorPosition 83 = .ok (.iconst 1, 1) := by decide +kernel
theorem dX4_errorPosition_84 : decode cX4_errorPosition 84 = .ok (.goto 4, 3) := by decide +kernel
theorem dX4_errorPosition_87 : decode cX4_errorPosition 87 = .ok (.iconst 0, 1) := by decide +kernel
theorem dX4_errorPosition_88 : decode cX4_errorPosition 88 = .ok (.istore_n 1, 1) := by decide +kernel
theorem dX4_errorPosition_89 : decode cX4_errorPosition 89 = .ok (.goto (-71), 3) := by decide +kernel
theorem dX4_errorPosition_92 : decode cX4_errorPosition 92 = .ok (.aload_n 0, 1) := by decide +kernel
theorem dX4_errorPosition_93 : decode cX4_errorPosition 93 = .ok (.getfield 183, 3) := by decide +kernel
theorem dX4_errorPosition_96 : decode cX4_errorPosition 96 = .ok (.ireturn, 1) := by decide +kernel
set_option maxRecDepth 20000 in
theorem ggX4_executeOne_X4_whyNotCome : GoodIn wsX4_executeOne wsX4_whyNotCome := goodIn_r _ [6, 7, 8, 5, 9, 10, 11, 12, 13, 14, 15, 16, 17, 18, 19, 20, 21, 22, 23, 24, 25, 26, 27, 28, 29, 30, 31, 32, 33, 34, 35, 36, 37, 38, 39, 40, 41, 42, 43, 44, 45, 46, 133, 134, 135, 136, 137, 138, 139, 140, 141, 142, 143, 144, 145, 146] (by decide +kernel) (by decide +kernel)
set_option maxRecDepth 20000 in
theorem gX4_executeOne_X4_whyNotCome : GoodIn wsX4_executeOne (wsV RX4 102 RX4 yX4_whyNotCome wsX4_whyNotCome) := goodIn_app (goodIn_of _ (by decide +kernel)) ggX4_executeOne_X4_whyNotCome
set_option maxRecDepth 20000 in
theorem ggX4_executeOne_X4_comes : GoodIn wsX4_executeOne wsX4_comes := goodIn_r _ [50, 25, 13, 14, 15, 5, 16, 17, 18, 19, 20, 21, 22, 23, 24, 26, 27, 28, 29, 30, 31, 32, 33, 34, 35, 36, 51, 52, 53, 54, 55, 56, 57, 58, 59, 60, 61, 133, 134, 135, 136, 137, 138, 139, 140, 141, 142, 143, 144, 145, 146] (by decide +kernel) (by decide +kernel)
set_option maxRecDepth 20000 in
theorem gX4_executeOne_X4_comes : GoodIn wsX4_executeOne (wsV RX4 105 RX4 yX4_comes wsX4_comes) := goodIn_app (goodIn_of _ (by decide +kernel)) ggX4_executeOne_X4_comes
set_option maxRecDepth 20000 in
theorem ggX4_executeOne_X4_whyNotFetch : GoodIn wsX4_executeOne wsX4_whyNotFetch := goodIn_r _ [65, 10, 11, 5, 12, 66, 67, 68, 69, 25, 41, 42, 43, 44, 45, 46, 133, 134, 135, 136, 137, 138, 139, 140, 141, 142, 143, 144, 145, 146] (by decide +kernel) (by decide +kernel)
set_option maxRecDepth 20000 in
theorem gX4_executeOne_X4_whyNotFetch : GoodIn wsX4_executeOne (wsV RX4 126 RX4 yX4_whyNotFetch wsX4_whyNotFetch) := goodIn_app (goodIn_of _ (by decide +kernel)) ggX4_executeOne_X4_whyNotFetch
set_option maxRecDepth 20000 in
theorem ggX4_executeOne_X4_fetches : GoodIn wsX4_executeOne wsX4_fetches := goodIn_r _ [73, 25, 74, 75, 76, 5, 77, 78, 79, 80, 10, 11, 12, 59, 60, 61, 17, 18, 19, 20, 21, 22, 23, 24, 81, 82, 83, 84, 85, 86, 87, 88, 89, 90, 91, 92, 133, 134, 135, 136, 137, 138, 139, 140, 141, 142, 143, 144, 145, 146] (by decide +kernel) (by decide +kernel)
set_option maxRecDepth 20000 in
theorem gX4_executeOne_X4_fetches : GoodIn wsX4_executeOne (wsV RX4 129 RX4 yX4_fetches wsX4_fetches) := goodIn_app (goodIn_of _ (by decide +kernel)) ggX4_executeOne_X4_fetches
set_option maxRecDepth 20000 in
theorem ggX4_executeOne_X4_whyNotRefuse : GoodIn wsX4_executeOne wsX4_whyNotRefuse := goodIn_r _ [96, 74, 75, 76, 5, 77, 78, 79, 80, 10, 11, 12, 59, 60, 61, 17, 18, 19, 20, 21, 22, 23, 24, 25, 97, 98, 99, 100, 33, 34, 35, 36, 41, 42, 43, 44, 45, 46, 101, 102, 103, 104, 133, 134, 135, 136, 137, 138, 139, 140, 141, 142, 143, 144, 145, 146] (by decide +kernel) (by decide +kernel)
set_option maxRecDepth 20000 in
theorem gX4_executeOne_X4_whyNotRefuse : GoodIn wsX4_executeOne (wsV RX4 138 RX4 yX4_whyNotRefuse wsX4_whyNotRefuse) := goodIn_app (goodIn_of _ (by decide +kernel)) ggX4_executeOne_X4_whyNotRefuse
set_option maxRecDepth 20000 in
theorem ggX4_executeOne_X4_placeBy : GoodIn wsX4_executeOne wsX4_placeBy := goodIn_r _ [77, 78, 79, 5, 80, 10, 11, 12, 59, 60, 61, 17, 18, 19, 20, 21, 22, 23, 24, 25, 133, 134, 135, 136, 137, 138, 139, 140, 141, 142, 143, 144, 145, 146] (by decide +kernel) (by decide +kernel)
set_option maxRecDepth 20000 in
theorem gX4_executeOne_X4_placeBy : GoodIn wsX4_executeOne (wsV RX4 112 RX4 yX4_placeBy wsX4_placeBy) := goodIn_app (goodIn_of _ (by decide +kernel)) ggX4_executeOne_X4_placeBy
set_option maxRecDepth 20000 in
theorem ggX4_executeOne_X4_goesBack : GoodIn wsX4_executeOne wsX4_goesBack := goodIn_r _ [108, 21, 22, 23, 5, 24, 25, 85, 86, 87, 88, 89, 90, 91, 92, 101, 102, 103, 104, 133, 134, 135, 136, 137, 138, 139, 140, 141, 142, 143, 144, 145, 146] (by decide +kernel) (by decide +kernel)
set_option maxRecDepth 20000 in
theorem gX4_executeOne_X4_goesBack : GoodIn wsX4_executeOne (wsV RX4 141 RX4 yX4_goesBack wsX4_goesBack) := goodIn_app (goodIn_of _ (by decide +kernel)) ggX4_executeOne_X4_goesBack
set_option maxRecDepth 20000 in
theorem ggX4_executeOne_X4_whyNotMove : GoodIn wsX4_executeOne wsX4_whyNotMove := goodIn_r _ [112, 74, 75, 76, 5, 77, 78, 79, 80, 10, 11, 12, 59, 60, 61, 17, 18, 19, 20, 21, 22, 23, 24, 25, 97, 98, 99, 100, 33, 34, 35, 36, 41, 42, 43, 44, 45, 46, 13, 14, 15, 16, 26, 27, 28, 29, 30, 31, 32, 37, 38, 39, 40, 133, 134, 135, 136, 137, 138, 139, 140, 141, 142, 143, 144, 145, 146] (by decide +kernel) (by decide +kernel)
set_option maxRecDepth 20000 in
theorem gX4_executeOne_X4_whyNotMove : GoodIn wsX4_executeOne (wsV RX4 144 RX4 yX4_whyNotMove wsX4_whyNotMove) := goodIn_app (goodIn_of _ (by decide +kernel)) ggX4_executeOne_X4_whyNotMove
set_option maxRecDepth 20000 in
theorem ggX4_executeOne_X4_moves : GoodIn wsX4_executeOne wsX4_moves := goodIn_r _ [116, 74, 75, 76, 5, 77, 78, 79, 80, 10, 11, 12, 59, 60, 61, 17, 18, 19, 20, 21, 22, 23, 24, 25, 13, 14, 15, 16, 26, 27, 28, 29, 30, 31, 32, 33, 34, 35, 36, 51, 52, 53, 54, 89, 90, 91, 92, 55, 56, 57, 58, 133, 134, 135, 136, 137, 138, 139, 140, 141, 142, 143, 144, 145, 146] (by decide +kernel) (by decide +kernel)
set_option maxRecDepth 20000 in
theorem gX4_executeOne_X4_moves : GoodIn wsX4_executeOne (wsV RX4 147 RX4 yX4_moves wsX4_moves) := goodIn_app (goodIn_of _ (by decide +kernel)) ggX4_executeOne_X4_moves
set_option maxRecDepth 20000 in
theorem ggX4_executeOne_X4_whyNotPass : GoodIn wsX4_executeOne wsX4_whyNotPass := goodIn_r _ [120, 25, 10, 11, 5, 12, 133, 134, 135, 136, 137, 138, 139, 140, 141, 142, 143, 144, 145, 146] (by decide +kernel) (by decide +kernel)
set_option maxRecDepth 20000 in
theorem gX4_executeOne_X4_whyNotPass : GoodIn wsX4_executeOne (wsV RX4 156 RX4 yX4_whyNotPass wsX4_whyNotPass) := goodIn_app (goodIn_of _ (by decide +kernel)) ggX4_executeOne_X4_whyNotPass
set_option maxRecDepth 20000 in
theorem ggX4_executeOne_X4_passes : GoodIn wsX4_executeOne wsX4_passes := goodIn_r _ [124, 125, 126, 127, 5, 128, 25, 101, 102, 103, 104, 129, 130, 131, 132, 85, 86, 87, 88, 17, 18, 19, 20, 21, 22, 23, 24, 105, 106, 107, 108, 89, 90, 91, 92, 133, 134, 135, 136, 137, 138, 139, 140, 141, 142, 143, 144, 145, 146] (by decide +kernel) (by decide +kernel)
set_option maxRecDepth 20000 in
theorem gX4_executeOne_X4_passes : GoodIn wsX4_executeOne (wsV RX4 159 RX4 yX4_passes wsX4_passes) := goodIn_app (goodIn_of _ (by decide +kernel)) ggX4_executeOne_X4_passes
theorem dX4_executeOne_0 : decode cX4_executeOne 0 = .ok (.aload_n 0, 1) := by decide +kernel
theorem dX4_executeOne_1 : decode cX4_executeOne 1 = .ok (.getfield 33, 3) := by decide +kernel
theorem dX4_executeOne_4 : decode cX4_executeOne 4 = .ok (.iload_n 1, 1) := by decide +kernel
theorem dX4_executeOne_5 : decode cX4_executeOne 5 = .ok (.iconst 1, 1) := by decide +kernel
theorem dX4_executeOne_6 : decode cX4_executeOne 6 = .ok (.iadd, 1) := by decide +kernel
theorem dX4_executeOne_7 : decode cX4_executeOne 7 = .ok (.iaload, 1) := by decide +kernel
theorem dX4_executeOne_8 : decode cX4_executeOne 8 = .ok (.istore_n 2, 1) := by decide +kernel
theorem dX4_executeOne_9 : decode cX4_executeOne 9 = .ok (.aload_n 0, 1) := by decide +kernel
theorem dX4_executeOne_10 : decode cX4_executeOne 10 = .ok (.getfield 33, 3) := by decide +kernel
theorem dX4_executeOne_13 : decode cX4_executeOne 13 = .ok (.iload_n 1, 1) := by decide +kernel
theorem dX4_executeOne_14 : decode cX4_executeOne 14 = .ok (.iconst 2, 1) := by decide +kernel
theorem dX4_executeOne_15 : decode cX4_executeOne 15 = .ok (.iadd, 1) := by decide +kernel
theorem dX4_executeOne_16 : decode cX4_executeOne 16 = .ok (.iaload, 1) := by decide +kernel
theorem dX4_executeOne_17 : decode cX4_executeOne 17 = .ok (.istore_n 3, 1) := by decide +kernel
theorem dX4_executeOne_18 : decode cX4_executeOne 18 = .ok (.iconst 0, 1) := by decide +kernel
theorem dX4_executeOne_19 : decode cX4_executeOne 19 = .ok (.istore 4, 2) := by decide +kernel
theorem dX4_executeOne_21 : decode cX4_executeOne 21 = .ok (.aload_n 0, 1) := by decide +kernel
theorem dX4_executeOne_22 : decode cX4_executeOne 22 = .ok (.getfield 33, 3) := by decide +kernel
theorem dX4_executeOne_25 : decode cX4_executeOne 25 = .ok (.iload_n 1, 1) := by decide +kernel
theorem dX4_executeOne_26 : decode cX4_executeOne 26 = .ok (.iaload, 1) := by decide +kernel
theorem dX4_executeOne_27 : decode cX4_executeOne 27 = .ok (.lookupswitch 133 #[(97, 41), (109, 110), (112, 64), (120, 85)], 41) := by decide +kernel
theorem dX4_executeOne_68 : decode cX4_executeOne 68 = .ok (.aload_n 0, 1) := by decide +kernel
theorem dX4_executeOne_69 : decode cX4_executeOne 69 = .ok (.iload_n 2, 1) := by decide +kernel
theorem dX4_executeOne_70 : decode cX4_executeOne 70 = .ok (.iload_n 3, 1) := by decide +kernel
theorem dX4_executeOne_71 : decode cX4_executeOne 71 = .ok (.invokevirtual 102, 3) := by decide +kernel
theorem dX4_executeOne_74 : decode cX4_executeOne 74 = .ok (.istore 4, 2) := by decide +kernel
theorem dX4_executeOne_76 : decode cX4_executeOne 76 = .ok (.iload 4, 2) := by decide +kernel
theorem dX4_executeOne_78 : decode cX4_executeOne 78 = .ok (.ifCond .ne 100, 3) := by decide +kernel
theorem dX4_executeOne_81 : decode cX4_executeOne 81 = .ok (.aload_n 0, 1) := by decide +kernel
theorem dX4_executeOne_82 : decode cX4_executeOne 82 = .ok (.iload_n 2, 1) := by decide +kernel
theorem dX4_executeOne_83 : decode cX4_executeOne 83 = .ok (.iload_n 3, 1) := by decide +kernel
theorem dX4_executeOne_84 : decode cX4_executeOne 84 = .ok (.invokevirtual 105, 3) := by decide +kernel
theorem dX4_executeOne_87 : decode cX4_executeOne 87 = .ok (.pop, 1) := by decide +kernel
theorem dX4_executeOne_88 : decode cX4_executeOne 88 = .ok (.goto 90, 3) := by decide +kernel
theorem dX4_executeOne_91 : decode cX4_executeOne 91 = .ok (.aload_n 0, 1) := by decide +kernel
theorem dX4_executeOne_92 : decode cX4_executeOne 92 = .ok (.iload_n 2, 1) := by decide +kernel
theorem dX4_executeOne_93 : decode cX4_executeOne 93 = .ok (.invokevirtual 126, 3) := by decide +kernel
theorem dX4_executeOne_96 : decode cX4_executeOne 96 = .ok (.istore 4, 2) := by decide +kernel
theorem dX4_executeOne_98 : decode cX4_executeOne 98 = .ok (.iload 4, 2) := by decide +kernel
theorem dX4_executeOne_100 : decode cX4_executeOne 100 = .ok (.ifCond .ne 78, 3) := by decide +kernel
theorem dX4_executeOne_103 : decode cX4_executeOne 103 = .ok (.aload_n 0, 1) := by decide +kernel
theorem dX4_executeOne_104 : decode cX4_executeOne 104 = .ok (.iload_n 2, 1) := by decide +kernel
theorem dX4_executeOne_105 : decode cX4_executeOne 105 = .ok (.invokevirtual 129, 3) := by decide +kernel
theorem dX4_executeOne_108 : decode cX4_executeOne 108 = .ok (.pop, 1) := by decide +kernel
theorem dX4_executeOne_109 : decode cX4_executeOne 109 = .ok (.goto 69, 3) := by decide +kernel
theorem dX4_executeOne_112 : decode cX4_executeOne 112 = .ok (.aload_n 0, 1) := by decide +kernel
theorem dX4_executeOne_113 : decode cX4_executeOne 113 = .ok (.iload_n 2, 1) := by decide +kernel
theorem dX4_executeOne_114 : decode cX4_executeOne 114 = .ok (.invokevirtual 138, 3) := by decide +kernel
theorem dX4_executeOne_117 : decode cX4_executeOne 117 = .ok (.istore 4, 2) := by decide +kernel
theorem dX4_executeOne_119 : decode cX4_executeOne 119 = .ok (.iload 4, 2) := by decide +kernel
theorem dX4_executeOne_121 : decode cX4_executeOne 121 = .ok (.ifCond .ne 57, 3) := by decide +kernel
theorem dX4_executeOne_124 : decode cX4_executeOne 124 = .ok (.aload_n 0, 1) := by decide +kernel
theorem dX4_executeOne_125 : decode cX4_executeOne 125 = .ok (.aload_n 0, 1) := by decide +kernel
theorem dX4_executeOne_126 : decode cX4_executeOne 126 = .ok (.iload_n 2, 1) := by decide +kernel
theorem dX4_executeOne_127 : decode cX4_executeOne 127 = .ok (.invokevirtual 112, 3) := by decide +kernel
theorem dX4_executeOne_130 : decode cX4_executeOne 130 = .ok (.invokevirtual 141, 3) := by decide +kernel
theorem dX4_executeOne_133 : decode cX4_executeOne 133 = .ok (.pop, 1) := by decide +kernel
theorem dX4_executeOne_134 : decode cX4_executeOne 134 = .ok (.goto 44, 3) := by decide +kernel
theorem dX4_executeOne_137 : decode cX4_executeOne 137 = .ok (.aload_n 0, 1) := by decide +kernel
theorem dX4_executeOne_138 : decode cX4_executeOne 138 = .ok (.iload_n 2, 1) := by decide +kernel
theorem dX4_executeOne_139 : decode cX4_executeOne 139 = .ok (.iload_n 3, 1) := by decide +kernel
theorem dX4_executeOne_140 : decode cX4_executeOne 140 = .ok (.invokevirtual 144, 3) := by decide +kernel
theorem dX4_executeOne_143 : decode cX4_executeOne 143 = .ok (.istore 4, 2) := by decide +kernel
theorem dX4_executeOne_145 : decode cX4_executeOne 145 = .ok (.iload 4, 2) := by decide +kernel
theorem dX4_executeOne_147 : decode cX4_executeOne 147 = .ok (.ifCond .ne 31, 3) := by decide +kernel
theorem dX4_executeOne_150 : decode cX4_executeOne 150 = .ok (.aload_n 0, 1) := by decide +kernel
theorem dX4_executeOne_151 : decode cX4_executeOne 151 = .ok (.iload_n 2, 1) := by decide +kernel
theorem dX4_executeOne_152 : decode cX4_executeOne 152 = .ok (.iload_n 3, 1) := by decide +kernel
theorem dX4_executeOne_153 : decode cX4_executeOne 153 = .ok (.invokevirtual 147, 3) := by decide +kernel
theorem dX4_executeOne_156 : decode cX4_executeOne 156 = .ok (.pop, 1) := by decide +kernel
theorem dX4_executeOne_157 : decode cX4_executeOne 157 = .ok (.goto 21, 3) := by decide +kernel
theorem dX4_executeOne_160 : decode cX4_executeOne 160 = .ok (.aload_n 0, 1) := by decide +kernel
theorem dX4_executeOne_161 : decode cX4_executeOne 161 = .ok (.iload_n 2, 1) := by decide +kernel
theorem dX4_executeOne_162 : decode cX4_executeOne 162 = .ok (.invokevirtual 156, 3) := by decide +kernel
theorem dX4_executeOne_165 : decode cX4_executeOne 165 = .ok (.istore 4, 2) := by decide +kernel
theorem dX4_executeOne_167 : decode cX4_executeOne 167 = .ok (.iload 4, 2) := by decide +kernel
theorem dX4_executeOne_169 : decode cX4_executeOne 169 = .ok (.ifCond .ne 9, 3) := by decide +kernel
theorem dX4_executeOne_172 : decode cX4_executeOne 172 = .ok (.aload_n 0, 1) := by decide +kernel
theorem dX4_executeOne_173 : decode cX4_executeOne 173 = .ok (.iload_n 2, 1) := by decide +kernel
theorem dX4_executeOne_174 : decode cX4_executeOne 174 = .ok (.invokevirtual 159, 3) := by decide +kernel
theorem dX4_executeOne_177 : decode cX4_executeOne 177 = .ok (.pop, 1) := by decide +kernel
theorem dX4_executeOne_178 : decode cX4_executeOne 178 = .ok (.iload 4, 2) := by decide +kernel
theorem dX4_executeOne_180 : decode cX4_executeOne 180 = .ok (.ireturn, 1) := by decide +kernel
set_option maxRecDepth 20000 in
theorem ggX4_execute_X4_errorPosition : GoodIn wsX4_execute wsX4_errorPosition := goodIn_r _ [7, 1, 8, 9, 2, 10, 11, 12, 6, 13, 14, 15, 16, 17, 18, 19, 20, 21, 22, 23, 24, 25, 26, 27, 28, 29, 30, 31, 32, 33, 34, 35, 36, 37, 38, 176, 177, 178, 179, 180, 181, 182, 183, 184, 185, 186, 187, 188, 189] (by decide +kernel) (by decide +kernel)
set_option maxRecDepth 20000 in
theorem gX4_execute_X4_errorPosition : GoodIn wsX4_execute (wsV RX4 208 RX4 yX4_errorPosition wsX4_errorPosition) := goodIn_app (goodIn_of _ (by decide +kernel)) ggX4_execute_X4_errorPosition
set_option maxRecDepth 20000 in
theorem ggX4_execute_X4_record : GoodIn wsX4_execute wsX4_record := goodIn_r _ [42, 43, 44, 45, 176, 177, 178, 179, 180, 181, 182, 183, 184, 185, 186, 187, 188, 189] (by decide +kernel) (by decide +kernel)
set_option maxRecDepth 20000 in
theorem gX4_execute_X4_record : GoodIn wsX4_execute (wsV RX4 47 RX4 yX4_record wsX4_record) := goodIn_app (goodIn_of _ (by decide +kernel)) ggX4_execute_X4_record
set_option maxRecDepth 20000 in
theorem ggX4_execute_X4_executeOne : GoodIn wsX4_execute wsX4_executeOne := goodIn_r _ [49, 14, 50, 51, 52, 6, 53, 54, 55, 56, 28, 29, 30, 57, 58, 59, 60, 61, 62, 63, 64, 65, 66, 67, 68, 45, 69, 70, 71, 72, 73, 74, 75, 76, 77, 78, 79, 80, 81, 82, 83, 84, 85, 86, 87, 88, 89, 90, 91, 92, 93, 94, 95, 96, 97, 98, 99, 100, 101, 102, 103, 104, 105, 106, 107, 108, 109, 110, 111, 112, 113, 114, 115, 116, 117, 118, 119, 120, 121, 122, 123, 124, 125, 126, 127, 128, 129, 130, 131, 132, 133, 134, 135, 136, 137, 138, 139, 140, 141, 142, 143, 144, 145, 146, 147, 148, 149, 150, 151, 152, 153, 154, 155, 156, 157, 158, 159, 160, 161, 162, 163, 164, 165, 166, 167, 168, 169, 170, 171, 172, 173, 174, 175, 176, 177, 178, 179, 180, 181, 182, 183, 184, 185, 186, 187, 188, 189] (by decide +kernel) (by decide +kernel)
set_option maxRecDepth 20000 in
theorem gX4_execute_X4_executeOne : GoodIn wsX4_execute (wsV RX4 211 RX4 yX4_executeOne wsX4_executeOne) := goodIn_app (goodIn_of _ (by decide +kernel)) ggX4_execute_X4_executeOne
theorem dX4_execute_0 : decode cX4_execute 0 = .ok (.aload_n 0, 1) := by decide +kernel
theorem dX4_execute_1 : decode cX4_execute 1 = .ok (.invokevirtual 208, 3) := by decide +kernel
theorem dX4_execute_4 : decode cX4_execute 4 = .ok (.bipush (-6), 2) := by decide +kernel
theorem dX4_execute_6 : decode cX4_execute 6 = .ok (.if_icmp .eq 6, 3) := by decide +kernel
theorem dX4_execute_9 : decode cX4_execute 9 = .ok (.bipush (-5), 2) := by decide +kernel
theorem dX4_execute_11 : decode cX4_execute 11 = .ok (.ireturn, 1) := by decide +kernel
theorem dX4_execute_12 : decode cX4_execute 12 = .ok (.aload_n 0, 1) := by decide +kernel
theorem dX4_execute_13 : decode cX4_execute 13 = .ok (.invokevirtual 47, 3) := by decide +kernel
theorem dX4_execute_16 : decode cX4_execute 16 = .ok (.iconst 0, 1) := by decide +kernel
theorem dX4_execute_17 : decode cX4_execute 17 = .ok (.istore_n 1, 1) := by decide +kernel
theorem dX4_execute_18 : decode cX4_execute 18 = .ok (.iload_n 1, 1) := by decide +kernel
theorem dX4_execute_19 : decode cX4_execute 19 = .ok (.aload_n 0, 1) := by decide +kernel
theorem dX4_execute_20 : decode cX4_execute 20 = .ok (.getfield 202, 3) := by decide +kernel
theorem dX4_execute_23 : decode cX4_execute 23 = .ok (.if_icmp .ge 19, 3) := by decide +kernel
theorem dX4_execute_26 : decode cX4_execute 26 = .ok (.aload_n 0, 1) := by decide +kernel
theorem dX4_execute_27 : decode cX4_execute 27 = .ok (.iconst 3, 1) := by decide +kernel
theorem dX4_execute_28 : decode cX4_execute 28 = .ok (.iload_n 1, 1) := by decide +kernel
theorem dX4_execute_29 : decode cX4_execute 29 = .ok (.imul, 1) := by decide +kernel
theorem dX4_execute_30 : decode cX4_execute 30 = .ok (.invokevirtual 211, 3) := by decide +kernel
theorem dX4_execute_33 : decode cX4_execute 33 = .ok (.ifCond .ne 9, 3) := by decide +kernel
theorem dX4_execute_36 : decode cX4_execute 36 = .ok (.iinc 1 1, 3) := by decide +kernel
theorem dX4_execute_39 : decode cX4_execute 39 = .ok (.goto (-21), 3) := by decide +kernel
theorem dX4_execute_42 : decode cX4_execute 42 = .ok (.aload_n 0, 1) := by decide +kernel
theorem dX4_execute_43 : decode cX4_execute 43 = .ok (.iconst 0, 1) := by decide +kernel
theorem dX4_execute_44 : decode cX4_execute 44 = .ok (.putfield 177, 3) := by decide +kernel
theorem dX4_execute_47 : decode cX4_execute 47 = .ok (.iload_n 1, 1) := by decide +kernel
theorem dX4_execute_48 : decode cX4_execute 48 = .ok (.ireturn, 1) := by decide +kernel
theorem dJ9_max_7cf53_0 : decode cJ9_max_7cf53 0 = .ok (.iload_n 0, 1) := by decide +kernel
theorem dJ9_max_7cf53_1 : decode cJ9_max_7cf53 1 = .ok (.iload_n 1, 1) := by decide +kernel
theorem dJ9_max_7cf53_2 : decode cJ9_max_7cf53 2 = .ok (.if_icmp .lt 7, 3) := by decide +kernel
theorem dJ9_max_7cf53_5 : decode cJ9_max_7cf53 5 = .ok (.iload_n 0, 1) := by decide +kernel
theorem dJ9_max_7cf53_6 : decode cJ9_max_7cf53 6 = .ok (.goto 4, 3) := by decide +kernel
theorem dJ9_max_7cf53_9 : decode cJ9_max_7cf53 9 = .ok (.iload_n 1, 1) := by decide +kernel
theorem dJ9_max_7cf53_10 : decode cJ9_max_7cf53 10 = .ok (.ireturn, 1) := by decide +kernel
theorem dJ7_fill_53178_0 : decode cJ7_fill_53178 0 = .ok (.iconst 0, 1) := by decide +kernel
theorem dJ7_fill_53178_1 : decode cJ7_fill_53178 1 = .ok (.istore_n 2, 1) := by decide +kernel
theorem dJ7_fill_53178_2 : decode cJ7_fill_53178 2 = .ok (.aload_n 0, 1) := by decide +kernel
theorem dJ7_fill_53178_3 : decode cJ7_fill_53178 3 = .ok (.arraylength, 1) := by decide +kernel
theorem dJ7_fill_53178_4 : decode cJ7_fill_53178 4 = .ok (.istore_n 3, 1) := by decide +kernel
theorem dJ7_fill_53178_5 : decode cJ7_fill_53178 5 = .ok (.iload_n 2, 1) := by decide +kernel
theorem dJ7_fill_53178_6 : decode cJ7_fill_53178 6 = .ok (.iload_n 3, 1) := by decide +kernel
theorem dJ7_fill_53178_7 : decode cJ7_fill_53178 7 = .ok (.if_icmp .ge 13, 3) := by decide +kernel
theorem dJ7_fill_53178_10 : decode cJ7_fill_53178 10 = .ok (.aload_n 0, 1) := by decide +kernel
theorem dJ7_fill_53178_11 : decode cJ7_fill_53178 11 = .ok (.iload_n 2, 1) := by decide +kernel
theorem dJ7_fill_53178_12 : decode cJ7_fill_53178 12 = .ok (.iload_n 1, 1) := by decide +kernel
theorem dJ7_fill_53178_13 : decode cJ7_fill_53178 13 = .ok (.iastore, 1) := by decide +kernel
theorem dJ7_fill_53178_14 : decode cJ7_fill_53178 14 = .ok (.iinc 2 1, 3) := by decide +kernel
theorem dJ7_fill_53178_17 : decode cJ7_fill_53178 17 = .ok (.goto (-12), 3) := by decide +kernel
theorem dJ7_fill_53178_20 : decode cJ7_fill_53178 20 = .ok (.return_, 1) := by decide +kernel
set_option maxRecDepth 20000 in
theorem ggL_law_X3_init : GoodIn wsL_law wsX3_init := goodIn_r _ [8, 9, 10, 11, 12, 13, 14, 15, 16, 17, 18, 19, 20, 21, 22, 23, 24, 25, 26, 27, 28, 29, 30, 31, 32, 33, 34, 35, 36, 37, 38, 39, 40, 41, 42, 43, 44, 45, 46, 47, 48, 49, 50, 51, 52, 53, 54, 55, 56, 57, 58, 59, 60, 61, 62, 63, 796, 797, 798, 799, 800, 801, 802, 803, 804, 805, 806, 807, 808, 809, 774, 775, 776, 777, 778, 779, 780, 781, 810, 811, 812, 813, 814] (by decide +kernel) (by decide +kernel)
set_option maxRecDepth 20000 in
theorem gL_law_X3_init : GoodIn wsL_law (wsX3_init) := ggL_law_X3_init
set_option maxRecDepth 20000 in
theorem ggL_law_X4_init : GoodIn wsL_law wsX4_init := goodIn_r _ [66, 67, 10, 11, 33, 68, 69, 70, 71, 72, 73, 62, 74, 75, 782, 783, 784, 785, 786, 787, 788, 789, 790, 791, 792, 793, 794, 795] (by decide +kernel) (by decide +kernel)
set_option maxRecDepth 20000 in
theorem gL_law_X4_init : GoodIn wsL_law (wsX4_init) := ggL_law_X4_init
set_option maxRecDepth 20000 in
theorem ggL_law_X3_set : GoodIn wsL_law wsX3_set := goodIn_r _ [79, 21, 15, 80, 81, 82, 20, 83, 57, 84, 85, 86, 87, 88, 14, 89, 90, 91, 92, 93, 34, 44, 45, 46, 47, 35, 36, 37, 38, 39, 40, 41, 42, 43, 94, 95, 96, 2, 97, 98, 99, 100, 101, 102, 103, 104, 105, 106, 107, 108, 109, 110, 111, 112, 113, 114, 774, 775, 776, 777, 778, 779, 780, 781, 810, 811, 812, 796, 797, 798, 799, 800, 801, 802, 803, 804, 805, 806, 807, 808, 809] (by decide +kernel) (by decide +kernel)
set_option maxRecDepth 20000 in
theorem gL_law_X3_set : GoodIn wsL_law (wsV RL 13 RX3 yX3_set wsX3_set) := goodIn_app (goodIn_of _ (by decide +kernel)) ggL_law_X3_set
set_option maxRecDepth 20000 in
theorem ggL_law_X4_set : GoodIn wsL_law wsX4_set := goodIn_r _ [118, 68, 119, 120, 5, 121, 122, 123, 124, 125, 126, 127, 128, 129, 69, 782, 783, 784, 785, 786, 787, 788, 789, 790, 791, 792, 793, 794, 795] (by decide +kernel) (by decide +kernel)
set_option maxRecDepth 20000 in
theorem gL_law_X4_set : GoodIn wsL_law (wsV RL 17 RX4 yX4_set wsX4_set) := goodIn_app (goodIn_of _ (by decide +kernel)) ggL_law_X4_set
set_option maxRecDepth 20000 in
theorem ggL_law_X3_setting : GoodIn wsL_law wsX3_setting := goodIn_r _ [133, 15, 100, 101, 102, 2, 103, 774, 775, 776, 777, 778, 779, 780, 781, 796, 797, 798, 799, 800, 801, 802, 803, 804, 805, 806, 807, 808, 809] (by decide +kernel) (by decide +kernel)
set_option maxRecDepth 20000 in
theorem gL_law_X3_setting : GoodIn wsL_law (wsV RL 18 RX3 yX3_setting wsX3_setting) := goodIn_app (goodIn_of _ (by decide +kernel)) ggL_law_X3_setting
set_option maxRecDepth 20000 in
theorem ggL_law_X4_setting : GoodIn wsL_law wsX4_setting := goodIn_r _ [137, 68, 122, 123, 5, 124, 782, 783, 784, 785, 786, 787, 788, 789, 790, 791, 792, 793, 794, 795] (by decide +kernel) (by decide +kernel)
set_option maxRecDepth 20000 in
theorem gL_law_X4_setting : GoodIn wsL_law (wsV RL 22 RX4 yX4_setting wsX4_setting) := goodIn_app (goodIn_of _ (by decide +kernel)) ggL_law_X4_setting
set_option maxRecDepth 20000 in
theorem ggL_law_X3_come : GoodIn wsL_law wsX3_come := goodIn_r _ [141, 21, 15, 80, 81, 82, 20, 83, 57, 84, 85, 86, 87, 88, 14, 89, 90, 91, 92, 93, 34, 44, 45, 46, 47, 35, 36, 37, 38, 39, 40, 41, 42, 43, 142, 143, 144, 2, 145, 146, 147, 101, 102, 103, 148, 149, 150, 151, 152, 153, 154, 155, 156, 157, 158, 159, 160, 161, 162, 163, 164, 165, 166, 167, 168, 169, 170, 171, 172, 173, 174, 175, 176, 177, 178, 179, 180, 181, 182, 27, 28, 183, 184, 185, 186, 187, 188, 189, 190, 191, 192, 193, 194, 195, 104, 105, 106, 107, 108, 109, 110, 111, 112, 113, 114, 774, 775, 776, 777, 778, 779, 780, 781, 810, 811, 812, 796, 797, 798, 799, 800, 801, 802, 803, 804, 805, 806, 807, 808, 809] (by decide +kernel) (by decide +kernel)
set_option maxRecDepth 20000 in
theorem gL_law_X3_come : GoodIn wsL_law (wsV RL 23 RX3 yX3_come wsX3_come) := goodIn_app (goodIn_of _ (by decide +kernel)) ggL_law_X3_come
set_option maxRecDepth 20000 in
theorem ggL_law_X4_come : GoodIn wsL_law wsX4_come := goodIn_r _ [199, 200, 201, 202, 5, 203, 204, 205, 206, 122, 123, 124, 207, 208, 209, 210, 211, 212, 213, 214, 215, 216, 217, 218, 68, 219, 220, 221, 222, 223, 224, 225, 226, 227, 228, 229, 230, 231, 232, 233, 234, 235, 236, 237, 72, 73, 125, 126, 127, 128, 129, 69, 238, 239, 240, 241, 242, 243, 244, 245, 246, 247, 248, 249, 250, 251, 252, 782, 783, 784, 785, 786, 787, 788, 789, 790, 791, 792, 793, 794, 795] (by decide +kernel) (by decide +kernel)
set_option maxRecDepth 20000 in
theorem gL_law_X4_come : GoodIn wsL_law (wsV RL 26 RX4 yX4_come wsX4_come) := goodIn_app (goodIn_of _ (by decide +kernel)) ggL_law_X4_come
set_option maxRecDepth 20000 in
theorem ggL_law_X3_fetch : GoodIn wsL_law wsX3_fetch := goodIn_r _ [256, 21, 15, 80, 81, 82, 20, 83, 57, 84, 85, 86, 87, 88, 14, 89, 90, 91, 92, 93, 34, 44, 45, 46, 47, 35, 36, 37, 38, 39, 40, 41, 42, 43, 257, 258, 259, 2, 260, 261, 262, 263, 264, 101, 102, 103, 265, 266, 267, 268, 179, 180, 181, 182, 27, 28, 269, 270, 271, 272, 273, 274, 275, 276, 277, 193, 194, 195, 278, 165, 166, 279, 280, 281, 282, 283, 284, 285, 286, 287, 288, 289, 290, 104, 105, 106, 107, 108, 109, 110, 111, 112, 113, 114, 774, 775, 776, 777, 778, 779, 780, 781, 810, 811, 812, 796, 797, 798, 799, 800, 801, 802, 803, 804, 805, 806, 807, 808, 809] (by decide +kernel) (by decide +kernel)
set_option maxRecDepth 20000 in
theorem gL_law_X3_fetch : GoodIn wsL_law (wsV RL 27 RX3 yX3_fetch wsX3_fetch) := goodIn_app (goodIn_of _ (by decide +kernel)) ggL_law_X3_fetch
set_option maxRecDepth 20000 in
theorem ggL_law_X4_fetch : GoodIn wsL_law wsX4_fetch := goodIn_r _ [294, 295, 296, 297, 5, 298, 122, 123, 124, 299, 300, 301, 302, 68, 234, 235, 236, 237, 72, 73, 125, 126, 127, 128, 129, 69, 303, 304, 305, 306, 307, 308, 309, 310, 311, 312, 313, 250, 251, 252, 211, 212, 213, 214, 215, 216, 217, 218, 314, 315, 316, 317, 318, 319, 320, 321, 322, 323, 324, 325, 782, 783, 784, 785, 786, 787, 788, 789, 790, 791, 792, 793, 794, 795] (by decide +kernel) (by decide +kernel)
set_option maxRecDepth 20000 in
theorem gL_law_X4_fetch : GoodIn wsL_law (wsV RL 30 RX4 yX4_fetch wsX4_fetch) := goodIn_app (goodIn_of _ (by decide +kernel)) ggL_law_X4_fetch
set_option maxRecDepth 20000 in
theorem ggL_law_X3_refuse : GoodIn wsL_law wsX3_refuse := goodIn_r _ [329, 21, 15, 80, 81, 82, 20, 83, 57, 84, 85, 86, 87, 88, 14, 89, 90, 91, 92, 93, 34, 44, 45, 46, 47, 35, 36, 37, 38, 39, 40, 41, 42, 43, 330, 331, 332, 2, 333, 264, 334, 269, 270, 271, 272, 273, 274, 101, 102, 103, 275, 276, 277, 193, 194, 195, 278, 165, 166, 335, 336, 337, 338, 339, 340, 168, 169, 170, 179, 180, 181, 182, 27, 28, 287, 288, 289, 290, 104, 105, 106, 107, 108, 109, 110, 111, 112, 113, 114, 774, 775, 776, 777, 778, 779, 780, 781, 810, 811, 812, 796, 797, 798, 799, 800, 801, 802, 803, 804, 805, 806, 807, 808, 809] (by decide +kernel) (by decide +kernel)
set_option maxRecDepth 20000 in
theorem gL_law_X3_refuse : GoodIn wsL_law (wsV RL 31 RX3 yX3_refuse wsX3_refuse) := goodIn_app (goodIn_of _ (by decide +kernel)) ggL_law_X3_refuse
set_option maxRecDepth 20000 in
theorem ggL_law_X4_refuse : GoodIn wsL_law wsX4_refuse := goodIn_r _ [344, 345, 346, 347, 5, 348, 307, 308, 309, 310, 311, 312, 313, 122, 123, 124, 250, 251, 252, 211, 212, 213, 214, 215, 216, 217, 218, 68, 349, 350, 351, 352, 226, 227, 228, 229, 234, 235, 236, 237, 72, 73, 353, 354, 355, 356, 125, 126, 127, 128, 129, 69, 357, 358, 359, 360, 318, 319, 320, 321, 322, 323, 324, 325, 782, 783, 784, 785, 786, 787, 788, 789, 790, 791, 792, 793, 794, 795] (by decide +kernel) (by decide +kernel)
set_option maxRecDepth 20000 in
theorem gL_law_X4_refuse : GoodIn wsL_law (wsV RL 34 RX4 yX4_refuse wsX4_refuse) := goodIn_app (goodIn_of _ (by decide +kernel)) ggL_law_X4_refuse
set_option maxRecDepth 20000 in
theorem ggL_law_X3_move : GoodIn wsL_law wsX3_move := goodIn_r _ [364, 21, 15, 80, 81, 82, 20, 83, 57, 84, 85, 86, 87, 88, 14, 89, 90, 91, 92, 93, 34, 44, 45, 46, 47, 35, 36, 37, 38, 39, 40, 41, 42, 43, 365, 366, 367, 2, 368, 369, 264, 370, 269, 270, 271, 272, 273, 274, 101, 102, 103, 275, 276, 277, 193, 194, 195, 278, 165, 166, 335, 336, 337, 338, 339, 340, 168, 169, 170, 179, 180, 181, 182, 27, 28, 371, 372, 373, 151, 152, 153, 154, 155, 156, 157, 158, 159, 160, 161, 162, 163, 164, 167, 171, 172, 173, 174, 175, 176, 177, 178, 183, 184, 185, 186, 287, 288, 289, 290, 187, 188, 189, 190, 191, 192, 104, 105, 106, 107, 108, 109, 110, 111, 112, 113, 114, 774, 775, 776, 777, 778, 779, 780, 781, 810, 811, 812, 796, 797, 798, 799, 800, 801, 802, 803, 804, 805, 806, 807, 808, 809] (by decide +kernel) (by decide +kernel)
set_option maxRecDepth 20000 in
theorem gL_law_X3_move : GoodIn wsL_law (wsV RL 35 RX3 yX3_move wsX3_move) := goodIn_app (goodIn_of _ (by decide +kernel)) ggL_law_X3_move
set_option maxRecDepth 20000 in
theorem ggL_law_X4_move : GoodIn wsL_law wsX4_move := goodIn_r _ [377, 378, 379, 380, 5, 381, 307, 308, 309, 310, 311, 312, 313, 122, 123, 124, 250, 251, 252, 211, 212, 213, 214, 215, 216, 217, 218, 68, 349, 350, 351, 352, 226, 227, 228, 229, 234, 235, 236, 237, 72, 73, 207, 208, 209, 210, 219, 220, 221, 222, 223, 224, 225, 230, 231, 232, 233, 125, 126, 127, 128, 129, 69, 382, 383, 384, 385, 242, 243, 244, 245, 322, 323, 324, 325, 246, 247, 248, 249, 782, 783, 784, 785, 786, 787, 788, 789, 790, 791, 792, 793, 794, 795] (by decide +kernel) (by decide +kernel)
set_option maxRecDepth 20000 in
theorem gL_law_X4_move : GoodIn wsL_law (wsV RL 38 RX4 yX4_move wsX4_move) := goodIn_app (goodIn_of _ (by decide +kernel)) ggL_law_X4_move
set_option maxRecDepth 20000 in
theorem ggL_law_X3_pass : GoodIn wsL_law wsX3_pass := goodIn_r _ [389, 21, 15, 80, 81, 82, 20, 83, 57, 84, 85, 86, 87, 88, 14, 89, 90, 91, 92, 93, 34, 44, 45, 46, 47, 35, 36, 37, 38, 39, 40, 41, 42, 43, 390, 391, 392, 2, 393, 146, 101, 102, 103, 394, 395, 396, 397, 398, 399, 400, 401, 402, 403, 404, 405, 406, 407, 408, 409, 410, 411, 412, 413, 414, 288, 289, 290, 165, 166, 104, 105, 106, 107, 108, 109, 110, 111, 112, 113, 114, 774, 775, 776, 777, 778, 779, 780, 781, 810, 811, 812, 796, 797, 798, 799, 800, 801, 802, 803, 804, 805, 806, 807, 808, 809] (by decide +kernel) (by decide +kernel)
set_option maxRecDepth 20000 in
theorem gL_law_X3_pass : GoodIn wsL_law (wsV RL 39 RX3 yX3_pass wsX3_pass) := goodIn_app (goodIn_of _ (by decide +kernel)) ggL_law_X3_pass
set_option maxRecDepth 20000 in
theorem ggL_law_X4_pass : GoodIn wsL_law wsX4_pass := goodIn_r _ [418, 419, 420, 421, 5, 422, 68, 122, 123, 124, 125, 126, 127, 128, 129, 69, 423, 424, 425, 426, 427, 428, 429, 430, 353, 354, 355, 356, 431, 432, 433, 434, 318, 319, 320, 321, 211, 212, 213, 214, 215, 216, 217, 218, 357, 358, 359, 360, 322, 323, 324, 325, 782, 783, 784, 785, 786, 787, 788, 789, 790, 791, 792, 793, 794, 795] (by decide +kernel) (by decide +kernel)
set_option maxRecDepth 20000 in
theorem gL_law_X4_pass : GoodIn wsL_law (wsV RL 42 RX4 yX4_pass wsX4_pass) := goodIn_app (goodIn_of _ (by decide +kernel)) ggL_law_X4_pass
set_option maxRecDepth 20000 in
theorem ggL_law_X3_call : GoodIn wsL_law wsX3_call := goodIn_r _ [438, 21, 15, 80, 81, 82, 20, 83, 57, 84, 85, 86, 87, 88, 14, 89, 90, 91, 92, 93, 34, 44, 45, 46, 47, 35, 36, 37, 38, 39, 40, 41, 42, 43, 439, 440, 441, 2, 442, 334, 101, 102, 103, 443, 403, 404, 405, 104, 105, 106, 107, 108, 109, 110, 111, 112, 113, 114, 774, 775, 776, 777, 778, 779, 780, 781, 810, 811, 812, 796, 797, 798, 799, 800, 801, 802, 803, 804, 805, 806, 807, 808, 809] (by decide +kernel) (by decide +kernel)
set_option maxRecDepth 20000 in
theorem gL_law_X3_call : GoodIn wsL_law (wsV RL 43 RX3 yX3_call wsX3_call) := goodIn_app (goodIn_of _ (by decide +kernel)) ggL_law_X3_call
set_option maxRecDepth 20000 in
theorem ggL_law_X4_call : GoodIn wsL_law wsX4_call := goodIn_r _ [447, 204, 205, 5, 206, 122, 123, 124, 353, 354, 355, 356, 68, 125, 126, 127, 128, 129, 69, 431, 432, 433, 434, 318, 319, 320, 321, 782, 783, 784, 785, 786, 787, 788, 789, 790, 791, 792, 793, 794, 795] (by decide +kernel) (by decide +kernel)
set_option maxRecDepth 20000 in
theorem gL_law_X4_call : GoodIn wsL_law (wsV RL 46 RX4 yX4_call wsX4_call) := goodIn_app (goodIn_of _ (by decide +kernel)) ggL_law_X4_call
set_option maxRecDepth 20000 in
theorem ggL_law_X3_day : GoodIn wsL_law wsX3_day := goodIn_r _ [451, 15, 146, 774, 775, 776, 777, 778, 779, 780, 781, 796, 797, 798, 799, 800, 801, 802, 803, 804, 805, 806, 807, 808, 809] (by decide +kernel) (by decide +kernel)
set_option maxRecDepth 20000 in
theorem gL_law_X3_day : GoodIn wsL_law (wsV RL 47 RX3 yX3_day wsX3_day) := goodIn_app (goodIn_of _ (by decide +kernel)) ggL_law_X3_day
set_option maxRecDepth 20000 in
theorem ggL_law_X4_day : GoodIn wsL_law wsX4_day := goodIn_r _ [455, 68, 782, 783, 784, 785, 786, 787, 788, 789, 790, 791, 792, 793, 794, 795] (by decide +kernel) (by decide +kernel)
set_option maxRecDepth 20000 in
theorem gL_law_X4_day : GoodIn wsL_law (wsV RL 51 RX4 yX4_day wsX4_day) := goodIn_app (goodIn_of _ (by decide +kernel)) ggL_law_X4_day
set_option maxRecDepth 20000 in
theorem ggL_law_X3_parcel : GoodIn wsL_law wsX3_parcel := goodIn_r _ [459, 15, 264, 369, 370, 269, 270, 271, 14, 272, 35, 273, 2, 274, 101, 102, 103, 275, 276, 277, 193, 194, 195, 278, 165, 166, 279, 280, 281, 282, 90, 38, 34, 283, 284, 285, 286, 37, 774, 775, 776, 777, 778, 779, 780, 781, 796, 797, 798, 799, 800, 801, 802, 803, 804, 805, 806, 807, 808, 809] (by decide +kernel) (by decide +kernel)
set_option maxRecDepth 20000 in
theorem gL_law_X3_parcel : GoodIn wsL_law (wsV RL 52 RX3 yX3_parcel wsX3_parcel) := goodIn_app (goodIn_of _ (by decide +kernel)) ggL_law_X3_parcel
set_option maxRecDepth 20000 in
theorem ggL_law_X4_parcel : GoodIn wsL_law wsX4_parcel := goodIn_r _ [463, 68, 307, 308, 309, 5, 310, 311, 312, 313, 122, 123, 124, 250, 251, 252, 211, 212, 213, 214, 215, 216, 217, 218, 314, 315, 316, 317, 782, 783, 784, 785, 786, 787, 788, 789, 790, 791, 792, 793, 794, 795] (by decide +kernel) (by decide +kernel)
set_option maxRecDepth 20000 in
theorem gL_law_X4_parcel : GoodIn wsL_law (wsV RL 55 RX4 yX4_parcel wsX4_parcel) := goodIn_app (goodIn_of _ (by decide +kernel)) ggL_law_X4_parcel
set_option maxRecDepth 20000 in
theorem ggL_law_X3_codeAt : GoodIn wsL_law wsX3_codeAt := goodIn_r _ [467, 15, 275, 276, 2, 277, 101, 102, 103, 468, 156, 157, 14, 158, 35, 187, 188, 189, 190, 191, 192, 193, 194, 195, 774, 775, 776, 777, 778, 779, 780, 781, 796, 797, 798, 799, 800, 801, 802, 803, 804, 805, 806, 807, 808, 809] (by decide +kernel) (by decide +kernel)
set_option maxRecDepth 20000 in
theorem gL_law_X3_codeAt : GoodIn wsL_law (wsV RL 56 RX3 yX3_codeAt wsX3_codeAt) := goodIn_app (goodIn_of _ (by decide +kernel)) ggL_law_X3_codeAt
set_option maxRecDepth 20000 in
theorem ggL_law_X4_codeAt : GoodIn wsL_law wsX4_codeAt := goodIn_r _ [472, 473, 474, 5, 475, 122, 123, 124, 211, 212, 213, 214, 215, 216, 217, 218, 68, 246, 247, 248, 249, 250, 251, 252, 782, 783, 784, 785, 786, 787, 788, 789, 790, 791, 792, 793, 794, 795] (by decide +kernel) (by decide +kernel)
set_option maxRecDepth 20000 in
theorem gL_law_X4_codeAt : GoodIn wsL_law (wsV RL 59 RX4 yX4_codeAt wsX4_codeAt) := goodIn_app (goodIn_of _ (by decide +kernel)) ggL_law_X4_codeAt
set_option maxRecDepth 20000 in
theorem ggL_law_X3_shelf : GoodIn wsL_law wsX3_shelf := goodIn_r _ [479, 15, 101, 102, 2, 103, 371, 372, 373, 480, 481, 482, 14, 483, 155, 156, 157, 158, 35, 484, 485, 486, 487, 159, 160, 161, 162, 90, 163, 164, 165, 166, 167, 168, 169, 170, 39, 34, 774, 775, 776, 777, 778, 779, 780, 781, 796, 797, 798, 799, 800, 801, 802, 803, 804, 805, 806, 807, 808, 809] (by decide +kernel) (by decide +kernel)
set_option maxRecDepth 20000 in
theorem gL_law_X3_shelf : GoodIn wsL_law (wsV RL 60 RX3 yX3_shelf wsX3_shelf) := goodIn_app (goodIn_of _ (by decide +kernel)) ggL_law_X3_shelf
set_option maxRecDepth 20000 in
theorem ggL_law_X4_shelf : GoodIn wsL_law wsX4_shelf := goodIn_r _ [491, 122, 123, 5, 124, 211, 212, 213, 214, 215, 216, 217, 218, 68, 219, 220, 221, 222, 223, 224, 225, 226, 227, 228, 229, 782, 783, 784, 785, 786, 787, 788, 789, 790, 791, 792, 793, 794, 795] (by decide +kernel) (by decide +kernel)
set_option maxRecDepth 20000 in
theorem gL_law_X4_shelf : GoodIn wsL_law (wsV RL 63 RX4 yX4_shelf wsX4_shelf) := goodIn_app (goodIn_of _ (by decide +kernel)) ggL_law_X4_shelf
set_option maxRecDepth 20000 in
theorem ggL_law_X3_sender : GoodIn wsL_law wsX3_sender := goodIn_r _ [495, 15, 334, 496, 263, 497, 101, 102, 2, 103, 498, 499, 500, 14, 501, 36, 155, 156, 157, 158, 35, 774, 775, 776, 777, 778, 779, 780, 781, 796, 797, 798, 799, 800, 801, 802, 803, 804, 805, 806, 807, 808, 809] (by decide +kernel) (by decide +kernel)
set_option maxRecDepth 20000 in
theorem gL_law_X3_sender : GoodIn wsL_law (wsV RL 64 RX3 yX3_sender wsX3_sender) := goodIn_app (goodIn_of _ (by decide +kernel)) ggL_law_X3_sender
set_option maxRecDepth 20000 in
theorem ggL_law_X4_sender : GoodIn wsL_law wsX4_sender := goodIn_r _ [505, 204, 205, 5, 206, 122, 123, 124, 215, 216, 217, 218, 68, 353, 354, 355, 356, 782, 783, 784, 785, 786, 787, 788, 789, 790, 791, 792, 793, 794, 795] (by decide +kernel) (by decide +kernel)
set_option maxRecDepth 20000 in
theorem gL_law_X4_sender : GoodIn wsL_law (wsV RL 67 RX4 yX4_sender wsX4_sender) := goodIn_app (goodIn_of _ (by decide +kernel)) ggL_law_X4_sender
set_option maxRecDepth 20000 in
theorem ggL_law_X3_total : GoodIn wsL_law wsX3_total := goodIn_r _ [509, 15, 334, 147, 263, 497, 262, 496, 261, 510, 511, 512, 14, 513, 514, 481, 482, 483, 155, 156, 157, 158, 35, 515, 516, 2, 517, 265, 266, 267, 268, 91, 518, 519, 520, 521, 522, 280, 281, 282, 90, 38, 34, 283, 284, 285, 286, 37, 774, 775, 776, 777, 778, 779, 780, 781, 796, 797, 798, 799, 800, 801, 802, 803, 804, 805, 806, 807, 808, 809] (by decide +kernel) (by decide +kernel)
set_option maxRecDepth 20000 in
theorem gL_law_X3_total : GoodIn wsL_law (wsV RL 68 RX3 yX3_total wsX3_total) := goodIn_app (goodIn_of _ (by decide +kernel)) ggL_law_X3_total
set_option maxRecDepth 20000 in
theorem ggL_law_X4_total : GoodIn wsL_law wsX4_total := goodIn_r _ [526, 68, 527, 528, 529, 5, 530, 211, 212, 213, 214, 215, 216, 217, 218, 531, 532, 533, 534, 353, 354, 355, 356, 299, 300, 301, 302, 535, 536, 537, 538, 314, 315, 316, 317, 782, 783, 784, 785, 786, 787, 788, 789, 790, 791, 792, 793, 794, 795] (by decide +kernel) (by decide +kernel)
set_option maxRecDepth 20000 in
theorem gL_law_X4_total : GoodIn wsL_law (wsV RL 71 RX4 yX4_total wsX4_total) := goodIn_app (goodIn_of _ (by decide +kernel)) ggL_law_X4_total
set_option maxRecDepth 20000 in
theorem ggL_law_X3_refusal : GoodIn wsL_law wsX3_refusal := goodIn_r _ [542, 27, 28, 774, 775, 776, 777, 778, 779, 780, 781] (by decide +kernel) (by decide +kernel)
set_option maxRecDepth 20000 in
theorem gL_law_X3_refusal : GoodIn wsL_law (wsV RL 72 RX3 yX3_refusal wsX3_refusal) := goodIn_app (goodIn_of _ (by decide +kernel)) ggL_law_X3_refusal
set_option maxRecDepth 20000 in
theorem ggL_law_X4_refusal : GoodIn wsL_law wsX4_refusal := goodIn_r _ [546, 72, 73, 782, 783, 784, 785, 786, 787, 788, 789, 790, 791, 792, 793, 794, 795] (by decide +kernel) (by decide +kernel)
set_option maxRecDepth 20000 in
theorem gL_law_X4_refusal : GoodIn wsL_law (wsV RL 75 RX4 yX4_refusal wsX4_refusal) := goodIn_app (goodIn_of _ (by decide +kernel)) ggL_law_X4_refusal
set_option maxRecDepth 20000 in
theorem ggL_law_X3_isCode : GoodIn wsL_law wsX3_isCode := goodIn_r _ [550, 101, 102, 2, 103, 339, 273, 274, 275, 276, 277, 193, 194, 195, 278, 165, 166] (by decide +kernel) (by decide +kernel)
set_option maxRecDepth 20000 in
theorem gL_law_X3_isCode : GoodIn wsL_law (wsV RL 76 RX3 yX3_isCode wsX3_isCode) := goodIn_app (goodIn_of _ (by decide +kernel)) ggL_law_X3_isCode
set_option maxRecDepth 20000 in
theorem ggL_law_X4_isCode : GoodIn wsL_law wsX4_isCode := goodIn_r _ [554, 122, 123, 5, 124, 311, 312, 313, 250, 251, 252] (by decide +kernel) (by decide +kernel)
set_option maxRecDepth 20000 in
theorem gL_law_X4_isCode : GoodIn wsL_law (wsV RL 79 RX4 yX4_isCode wsX4_isCode) := goodIn_app (goodIn_of _ (by decide +kernel)) ggL_law_X4_isCode
set_option maxRecDepth 20000 in
theorem ggL_law_X3_codeOf : GoodIn wsL_law wsX3_codeOf := goodIn_r _ [558, 275, 276, 2, 277, 101, 102, 103, 559, 163, 164, 560, 191, 192, 193, 194, 195] (by decide +kernel) (by decide +kernel)
set_option maxRecDepth 20000 in
theorem gL_law_X3_codeOf : GoodIn wsL_law (wsV RL 80 RX3 yX3_codeOf wsX3_codeOf) := goodIn_app (goodIn_of _ (by decide +kernel)) ggL_law_X3_codeOf
set_option maxRecDepth 20000 in
theorem ggL_law_X4_codeOf : GoodIn wsL_law wsX4_codeOf := goodIn_r _ [564, 473, 474, 5, 475, 122, 123, 124, 223, 224, 225, 250, 251, 252] (by decide +kernel) (by decide +kernel)
set_option maxRecDepth 20000 in
theorem gL_law_X4_codeOf : GoodIn wsL_law (wsV RL 84 RX4 yX4_codeOf wsX4_codeOf) := goodIn_app (goodIn_of _ (by decide +kernel)) ggL_law_X4_codeOf
set_option maxRecDepth 20000 in
theorem ggL_law_X3_restsUntil : GoodIn wsL_law wsX3_restsUntil := goodIn_r _ [568, 15, 569, 100, 101, 102, 2, 103, 339, 273, 274, 275, 276, 277, 193, 194, 195, 278, 165, 166, 340, 168, 169, 14, 170, 39, 90, 34, 774, 775, 776, 777, 778, 779, 780, 781, 796, 797, 798, 799, 800, 801, 802, 803, 804, 805, 806, 807, 808, 809] (by decide +kernel) (by decide +kernel)
set_option maxRecDepth 20000 in
theorem gL_law_X3_restsUntil : GoodIn wsL_law (wsV RL 85 RX3 yX3_restsUntil wsX3_restsUntil) := goodIn_app (goodIn_of _ (by decide +kernel)) ggL_law_X3_restsUntil
set_option maxRecDepth 20000 in
theorem ggL_law_X4_restsUntil : GoodIn wsL_law wsX4_restsUntil := goodIn_r _ [573, 122, 123, 5, 124, 311, 312, 313, 250, 251, 252, 226, 227, 228, 229, 68, 782, 783, 784, 785, 786, 787, 788, 789, 790, 791, 792, 793, 794, 795] (by decide +kernel) (by decide +kernel)
set_option maxRecDepth 20000 in
theorem gL_law_X4_restsUntil : GoodIn wsL_law (wsV RL 88 RX4 yX4_restsUntil wsX4_restsUntil) := goodIn_app (goodIn_of _ (by decide +kernel)) ggL_law_X4_restsUntil
set_option maxRecDepth 20000 in
theorem ggL_law_X3_nextCode : GoodIn wsL_law wsX3_nextCode := goodIn_r _ [577, 15, 146, 101, 102, 2, 103, 148, 149, 150, 151, 152, 153, 14, 154, 155, 156, 157, 158, 35, 159, 160, 161, 162, 90, 163, 164, 165, 166, 167, 168, 169, 170, 39, 34, 559, 560, 191, 192, 193, 194, 195, 774, 775, 776, 777, 778, 779, 780, 781, 796, 797, 798, 799, 800, 801, 802, 803, 804, 805, 806, 807, 808, 809] (by decide +kernel) (by decide +kernel)
set_option maxRecDepth 20000 in
theorem gL_law_X3_nextCode : GoodIn wsL_law (wsV RL 89 RX3 yX3_nextCode wsX3_nextCode) := goodIn_app (goodIn_of _ (by decide +kernel)) ggL_law_X3_nextCode
set_option maxRecDepth 20000 in
theorem ggL_law_X4_nextCode : GoodIn wsL_law wsX4_nextCode := goodIn_r _ [581, 68, 122, 123, 5, 124, 207, 208, 209, 210, 211, 212, 213, 214, 215, 216, 217, 218, 219, 220, 221, 222, 223, 224, 225, 226, 227, 228, 229, 250, 251, 252, 782, 783, 784, 785, 786, 787, 788, 789, 790, 791, 792, 793, 794, 795] (by decide +kernel) (by decide +kernel)
set_option maxRecDepth 20000 in
theorem gL_law_X4_nextCode : GoodIn wsL_law (wsV RL 92 RX4 yX4_nextCode wsX4_nextCode) := goodIn_app (goodIn_of _ (by decide +kernel)) ggL_law_X4_nextCode
set_option maxRecDepth 20000 in
theorem ggL_law_X3_feeIn : GoodIn wsL_law wsX3_feeIn := goodIn_r _ [585, 15, 269, 270, 271, 14, 272, 35, 273, 2, 274, 101, 102, 103, 275, 276, 277, 193, 194, 195, 278, 165, 166, 279, 280, 281, 282, 90, 38, 34, 283, 284, 285, 286, 37, 774, 775, 776, 777, 778, 779, 780, 781, 796, 797, 798, 799, 800, 801, 802, 803, 804, 805, 806, 807, 808, 809] (by decide +kernel) (by decide +kernel)
set_option maxRecDepth 20000 in
theorem gL_law_X3_feeIn : GoodIn wsL_law (wsV RL 93 RX3 yX3_feeIn wsX3_feeIn) := goodIn_app (goodIn_of _ (by decide +kernel)) ggL_law_X3_feeIn
set_option maxRecDepth 20000 in
theorem ggL_law_X4_feeIn : GoodIn wsL_law wsX4_feeIn := goodIn_r _ [589, 68, 307, 308, 309, 5, 310, 311, 312, 313, 122, 123, 124, 250, 251, 252, 211, 212, 213, 214, 215, 216, 217, 218, 314, 315, 316, 317, 782, 783, 784, 785, 786, 787, 788, 789, 790, 791, 792, 793, 794, 795] (by decide +kernel) (by decide +kernel)
set_option maxRecDepth 20000 in
theorem gL_law_X4_feeIn : GoodIn wsL_law (wsV RL 96 RX4 yX4_feeIn wsX4_feeIn) := goodIn_app (goodIn_of _ (by decide +kernel)) ggL_law_X4_feeIn
set_option maxRecDepth 20000 in
theorem ggL_law_X3_goesIn : GoodIn wsL_law wsX3_goesIn := goodIn_r _ [593, 15, 17, 269, 270, 271, 14, 272, 35, 273, 2, 274, 101, 102, 103, 275, 276, 277, 193, 194, 195, 278, 165, 166, 594, 87, 88, 89, 90, 91, 92, 93, 34, 44, 45, 46, 47, 36, 37, 38, 39, 40, 41, 42, 43, 394, 395, 396, 397, 398, 399, 400, 401, 402, 403, 404, 405, 406, 407, 408, 409, 410, 411, 412, 413, 414, 288, 289, 290, 468, 156, 157, 158, 774, 775, 776, 777, 778, 779, 780, 781, 796, 797, 798, 799, 800, 801, 802, 803, 804, 805, 806, 807, 808, 809] (by decide +kernel) (by decide +kernel)
set_option maxRecDepth 20000 in
theorem gL_law_X3_goesIn : GoodIn wsL_law (wsV RL 97 RX3 yX3_goesIn wsX3_goesIn) := goodIn_app (goodIn_of _ (by decide +kernel)) ggL_law_X3_goesIn
set_option maxRecDepth 20000 in
theorem ggL_law_X4_goesIn : GoodIn wsL_law wsX4_goesIn := goodIn_r _ [598, 307, 308, 309, 5, 310, 311, 312, 313, 122, 123, 124, 250, 251, 252, 211, 212, 213, 214, 215, 216, 217, 218, 68, 599, 600, 601, 602, 71, 427, 428, 429, 430, 353, 354, 355, 356, 431, 432, 433, 434, 318, 319, 320, 321, 357, 358, 359, 360, 322, 323, 324, 325, 603, 604, 605, 606, 782, 783, 784, 785, 786, 787, 788, 789, 790, 791, 792, 793, 794, 795] (by decide +kernel) (by decide +kernel)
set_option maxRecDepth 20000 in
theorem gL_law_X4_goesIn : GoodIn wsL_law (wsV RL 100 RX4 yX4_goesIn wsX4_goesIn) := goodIn_app (goodIn_of _ (by decide +kernel)) ggL_law_X4_goesIn
set_option maxRecDepth 20000 in
theorem ggL_law_X3_chargesIn : GoodIn wsL_law wsX3_chargesIn := goodIn_r _ [610, 17, 15, 496, 101, 102, 2, 103, 594, 87, 88, 14, 89, 90, 91, 92, 93, 34, 44, 45, 46, 47, 35, 36, 37, 38, 39, 40, 41, 42, 43, 394, 395, 396, 397, 398, 399, 400, 401, 402, 403, 404, 405, 406, 407, 408, 409, 410, 411, 412, 413, 414, 288, 289, 290, 165, 166, 515, 516, 517, 774, 775, 776, 777, 778, 779, 780, 781, 796, 797, 798, 799, 800, 801, 802, 803, 804, 805, 806, 807, 808, 809] (by decide +kernel) (by decide +kernel)
set_option maxRecDepth 20000 in
theorem gL_law_X3_chargesIn : GoodIn wsL_law (wsV RL 101 RX3 yX3_chargesIn wsX3_chargesIn) := goodIn_app (goodIn_of _ (by decide +kernel)) ggL_law_X3_chargesIn
set_option maxRecDepth 20000 in
theorem ggL_law_X4_chargesIn : GoodIn wsL_law wsX4_chargesIn := goodIn_r _ [614, 68, 122, 123, 5, 124, 599, 600, 601, 602, 71, 423, 424, 425, 426, 427, 428, 429, 430, 353, 354, 355, 356, 431, 432, 433, 434, 318, 319, 320, 321, 211, 212, 213, 214, 215, 216, 217, 218, 357, 358, 359, 360, 322, 323, 324, 325, 603, 604, 605, 606, 782, 783, 784, 785, 786, 787, 788, 789, 790, 791, 792, 793, 794, 795] (by decide +kernel) (by decide +kernel)
set_option maxRecDepth 20000 in
theorem gL_law_X4_chargesIn : GoodIn wsL_law (wsV RL 104 RX4 yX4_chargesIn wsX4_chargesIn) := goodIn_app (goodIn_of _ (by decide +kernel)) ggL_law_X4_chargesIn
set_option maxRecDepth 20000 in
theorem ggL_law_X3_append : GoodIn wsL_law wsX3_append := goodIn_r _ [618, 25, 101, 102, 2, 103, 619, 620, 621, 24, 622, 623, 624, 625, 626, 627, 63, 774, 775, 776, 777, 778, 779, 780, 781, 813, 814] (by decide +kernel) (by decide +kernel)
set_option maxRecDepth 20000 in
theorem gL_law_X3_append : GoodIn wsL_law (wsV RL 105 RX3 yX3_append wsX3_append) := goodIn_app (goodIn_of _ (by decide +kernel)) ggL_law_X3_append
set_option maxRecDepth 20000 in
theorem ggL_law_X4_append : GoodIn wsL_law wsX4_append := goodIn_r _ [631, 632, 74, 122, 123, 5, 124, 782, 783, 784, 785, 786, 787, 788, 789, 790, 791, 792, 793, 794, 795] (by decide +kernel) (by decide +kernel)
set_option maxRecDepth 20000 in
theorem gL_law_X4_append : GoodIn wsL_law (wsV RL 108 RX4 yX4_append wsX4_append) := goodIn_app (goodIn_of _ (by decide +kernel)) ggL_law_X4_append
set_option maxRecDepth 20000 in
theorem ggL_law_X3_clearText : GoodIn wsL_law wsX3_clearText := goodIn_r _ [636, 25, 637, 638, 639, 24, 640, 623, 774, 775, 776, 777, 778, 779, 780, 781, 813, 814] (by decide +kernel) (by decide +kernel)
set_option maxRecDepth 20000 in
theorem gL_law_X3_clearText : GoodIn wsL_law (wsV RL 109 RX3 yX3_clearText wsX3_clearText) := goodIn_app (goodIn_of _ (by decide +kernel)) ggL_law_X3_clearText
set_option maxRecDepth 20000 in
theorem ggL_law_X4_clearText : GoodIn wsL_law wsX4_clearText := goodIn_r _ [644, 632, 782, 783, 784, 785, 786, 787, 788, 789, 790, 791, 792, 793, 794, 795] (by decide +kernel) (by decide +kernel)
set_option maxRecDepth 20000 in
theorem gL_law_X4_clearText : GoodIn wsL_law (wsV RL 112 RX4 yX4_clearText wsX4_clearText) := goodIn_app (goodIn_of _ (by decide +kernel)) ggL_law_X4_clearText
set_option maxRecDepth 20000 in
theorem ggL_law_X3_errorPosition : GoodIn wsL_law wsX3_errorPosition := goodIn_r _ [648, 25, 649, 650, 651, 24, 652, 623, 653, 654, 655, 656, 63, 102, 2, 103, 657, 658, 659, 660, 661, 662, 663, 664, 665, 666, 667, 668, 669, 670, 671, 672, 673, 674, 675, 676, 677, 774, 775, 776, 777, 778, 779, 780, 781, 813, 814] (by decide +kernel) (by decide +kernel)
set_option maxRecDepth 20000 in
theorem gL_law_X3_errorPosition : GoodIn wsL_law (wsV RL 113 RX3 yX3_errorPosition wsX3_errorPosition) := goodIn_app (goodIn_of _ (by decide +kernel)) ggL_law_X3_errorPosition
set_option maxRecDepth 20000 in
theorem ggL_law_X4_errorPosition : GoodIn wsL_law wsX4_errorPosition := goodIn_r _ [681, 682, 683, 684, 632, 685, 686, 687, 5, 688, 75, 689, 690, 691, 692, 74, 693, 694, 695, 696, 697, 698, 699, 700, 122, 123, 124, 701, 702, 703, 704, 705, 706, 707, 708, 782, 783, 784, 785, 786, 787, 788, 789, 790, 791, 792, 793, 794, 795] (by decide +kernel) (by decide +kernel)
set_option maxRecDepth 20000 in
theorem gL_law_X4_errorPosition : GoodIn wsL_law (wsV RL 116 RX4 yX4_errorPosition wsX4_errorPosition) := goodIn_app (goodIn_of _ (by decide +kernel)) ggL_law_X4_errorPosition
set_option maxRecDepth 20000 in
theorem ggL_law_X3_execute : GoodIn wsL_law wsX3_execute := goodIn_r _ [712, 25, 21, 15, 713, 649, 650, 651, 24, 652, 623, 653, 654, 655, 656, 63, 102, 2, 103, 657, 658, 659, 660, 661, 662, 663, 664, 665, 666, 667, 668, 669, 670, 671, 672, 673, 674, 675, 676, 677, 80, 81, 82, 20, 83, 57, 84, 85, 86, 87, 88, 14, 89, 90, 91, 92, 93, 34, 44, 45, 46, 47, 35, 36, 37, 38, 39, 40, 41, 42, 43, 714, 715, 716, 717, 718, 719, 720, 721, 722, 723, 724, 725, 726, 727, 728, 729, 730, 142, 143, 144, 145, 146, 147, 101, 148, 149, 150, 151, 152, 153, 154, 155, 156, 157, 158, 159, 160, 161, 162, 163, 164, 165, 166, 167, 168, 169, 170, 171, 172, 173, 174, 175, 176, 177, 178, 179, 180, 181, 182, 27, 28, 183, 184, 185, 186, 187, 188, 189, 190, 191, 192, 193, 194, 195, 257, 258, 259, 260, 261, 262, 263, 264, 265, 266, 267, 268, 269, 270, 271, 272, 273, 274, 275, 276, 277, 278, 279, 280, 281, 282, 283, 284, 285, 286, 287, 288, 289, 290, 330, 331, 332, 333, 334, 335, 336, 337, 338, 339, 340, 365, 366, 367, 368, 369, 370, 371, 372, 373, 731, 732, 733, 734, 390, 391, 392, 393, 394, 395, 396, 397, 398, 399, 400, 401, 402, 403, 404, 405, 406, 407, 408, 409, 410, 411, 412, 413, 414, 108, 109, 110, 637, 638, 639, 640, 104, 105, 106, 107, 111, 112, 113, 114, 774, 775, 776, 777, 778, 779, 780, 781, 813, 814, 810, 811, 812, 796, 797, 798, 799, 800, 801, 802, 803, 804, 805, 806, 807, 808, 809] (by decide +kernel) (by decide +kernel)
set_option maxRecDepth 20000 in
theorem gL_law_X3_execute : GoodIn wsL_law (wsV RL 117 RX3 yX3_execute wsX3_execute) := goodIn_app (goodIn_of _ (by decide +kernel)) ggL_law_X3_execute
set_option maxRecDepth 20000 in
theorem ggL_law_X4_execute : GoodIn wsL_law wsX4_execute := goodIn_r _ [738, 682, 632, 739, 679, 680, 5, 681, 683, 684, 685, 686, 687, 688, 75, 689, 690, 691, 692, 74, 693, 694, 695, 696, 697, 698, 699, 700, 122, 123, 124, 701, 702, 703, 704, 705, 706, 707, 708, 125, 126, 127, 128, 129, 69, 68, 740, 741, 742, 743, 200, 201, 202, 203, 204, 205, 206, 207, 208, 209, 210, 211, 212, 213, 214, 215, 216, 217, 218, 219, 220, 221, 222, 223, 224, 225, 226, 227, 228, 229, 230, 231, 232, 233, 234, 235, 236, 237, 72, 73, 238, 239, 240, 241, 242, 243, 244, 245, 246, 247, 248, 249, 250, 251, 252, 295, 296, 297, 298, 299, 300, 301, 302, 303, 304, 305, 306, 307, 308, 309, 310, 311, 312, 313, 314, 315, 316, 317, 318, 319, 320, 321, 322, 323, 324, 325, 345, 346, 347, 348, 349, 350, 351, 352, 353, 354, 355, 356, 357, 358, 359, 360, 378, 379, 380, 381, 382, 383, 384, 385, 419, 420, 421, 422, 423, 424, 425, 426, 427, 428, 429, 430, 431, 432, 433, 434, 782, 783, 784, 785, 786, 787, 788, 789, 790, 791, 792, 793, 794, 795] (by decide +kernel) (by decide +kernel)
set_option maxRecDepth 20000 in
theorem gL_law_X4_execute : GoodIn wsL_law (wsV RL 120 RX4 yX4_execute wsX4_execute) := goodIn_app (goodIn_of _ (by decide +kernel)) ggL_law_X4_execute
set_option maxRecDepth 20000 in
theorem ggL_law_X3_undo : GoodIn wsL_law wsX3_undo := goodIn_r _ [747, 21, 748, 15, 749, 750, 751, 20, 752, 85, 57, 84, 86, 87, 88, 14, 89, 90, 91, 92, 93, 34, 44, 45, 46, 47, 35, 36, 37, 38, 39, 40, 41, 42, 43, 774, 775, 776, 777, 778, 779, 780, 781, 810, 811, 812, 796, 797, 798, 799, 800, 801, 802, 803, 804, 805, 806, 807, 808, 809] (by decide +kernel) (by decide +kernel)
set_option maxRecDepth 20000 in
theorem gL_law_X3_undo : GoodIn wsL_law (wsV RL 121 RX3 yX3_undo wsX3_undo) := goodIn_app (goodIn_of _ (by decide +kernel)) ggL_law_X3_undo
set_option maxRecDepth 20000 in
theorem ggL_law_X4_undo : GoodIn wsL_law wsX4_undo := goodIn_r _ [756, 129, 68, 69, 782, 783, 784, 785, 786, 787, 788, 789, 790, 791, 792, 793, 794, 795] (by decide +kernel) (by decide +kernel)
set_option maxRecDepth 20000 in
theorem gL_law_X4_undo : GoodIn wsL_law (wsV RL 124 RX4 yX4_undo wsX4_undo) := goodIn_app (goodIn_of _ (by decide +kernel)) ggL_law_X4_undo
set_option maxRecDepth 20000 in
theorem ggL_law_X3_save : GoodIn wsL_law wsX3_save := goodIn_r _ [760, 16, 15, 26, 594, 87, 88, 14, 89, 90, 91, 92, 93, 34, 44, 45, 46, 47, 35, 36, 37, 38, 39, 40, 41, 42, 43, 510, 511, 512, 513, 514, 481, 482, 483, 155, 156, 157, 158, 774, 775, 776, 777, 778, 779, 780, 781, 796, 797, 798, 799, 800, 801, 802, 803, 804, 805, 806, 807, 808, 809] (by decide +kernel) (by decide +kernel)
set_option maxRecDepth 20000 in
theorem gL_law_X3_save : GoodIn wsL_law (wsV RL 125 RX3 yX3_save wsX3_save) := goodIn_app (goodIn_of _ (by decide +kernel)) ggL_law_X3_save
set_option maxRecDepth 20000 in
theorem ggL_law_X4_save : GoodIn wsL_law wsX4_save := goodIn_r _ [764, 765, 70, 68, 527, 528, 529, 5, 530, 211, 212, 213, 214, 215, 216, 217, 218, 782, 783, 784, 785, 786, 787, 788, 789, 790, 791, 792, 793, 794, 795] (by decide +kernel) (by decide +kernel)
set_option maxRecDepth 20000 in
theorem gL_law_X4_save : GoodIn wsL_law (wsV RL 128 RX4 yX4_save wsX4_save) := goodIn_app (goodIn_of _ (by decide +kernel)) ggL_law_X4_save
set_option maxRecDepth 20000 in
theorem ggL_law_X3_restore : GoodIn wsL_law wsX3_restore := goodIn_r _ [769, 26, 21, 15, 16, 80, 81, 82, 20, 83, 57, 84, 85, 86, 87, 88, 14, 89, 90, 91, 92, 93, 34, 44, 45, 46, 47, 35, 36, 37, 38, 39, 40, 41, 42, 43, 594, 510, 511, 512, 513, 514, 481, 482, 483, 155, 156, 157, 158, 104, 105, 106, 2, 107, 108, 109, 110, 101, 102, 103, 111, 112, 113, 114, 774, 775, 776, 777, 778, 779, 780, 781, 810, 811, 812, 796, 797, 798, 799, 800, 801, 802, 803, 804, 805, 806, 807, 808, 809] (by decide +kernel) (by decide +kernel)
set_option maxRecDepth 20000 in
theorem gL_law_X3_restore : GoodIn wsL_law (wsV RL 129 RX3 yX3_restore wsX3_restore) := goodIn_app (goodIn_of _ (by decide +kernel)) ggL_law_X3_restore
set_option maxRecDepth 20000 in
theorem ggL_law_X4_restore : GoodIn wsL_law wsX4_restore := goodIn_r _ [773, 765, 68, 70, 125, 126, 127, 5, 128, 129, 69, 527, 528, 529, 530, 211, 212, 213, 214, 215, 216, 217, 218, 782, 783, 784, 785, 786, 787, 788, 789, 790, 791, 792, 793, 794, 795] (by decide +kernel) (by decide +kernel)
set_option maxRecDepth 20000 in
theorem gL_law_X4_restore : GoodIn wsL_law (wsV RL 132 RX4 yX4_restore wsX4_restore) := goodIn_app (goodIn_of _ (by decide +kernel)) ggL_law_X4_restore
theorem dL_law_0 : decode cL_law 0 = .ok (.new 7, 3) := by decide +kernel
theorem dL_law_3 : decode cL_law 3 = .ok (.dup, 1) := by decide +kernel
theorem dL_law_4 : decode cL_law 4 = .ok (.invokespecial 9, 3) := by decide +kernel
theorem dL_law_7 : decode cL_law 7 = .ok (.astore_n 1, 1) := by decide +kernel
theorem dL_law_8 : decode cL_law 8 = .ok (.new 10, 3) := by decide +kernel
theorem dL_law_11 : decode cL_law 11 = .ok (.dup, 1) := by decide +kernel
theorem dL_law_12 : decode cL_law 12 = .ok (.invokespecial 12, 3) := by decide +kernel
theorem dL_law_15 : decode cL_law 15 = .ok (.astore_n 2, 1) := by decide +kernel
theorem dL_law_16 : decode cL_law 16 = .ok (.iconst 0, 1) := by decide +kernel
theorem dL_law_17 : decode cL_law 17 = .ok (.istore_n 3, 1) := by decide +kernel
theorem dL_law_18 : decode cL_law 18 = .ok (.iload_n 3, 1) := by decide +kernel
theorem dL_law_19 : decode cL_law 19 = .ok (.aload_n 0, 1) := by decide +kernel
theorem dL_law_20 : decode cL_law 20 = .ok (.arraylength, 1) := by decide +kernel
theorem dL_law_21 : decode cL_law 21 = .ok (.iconst 4, 1) := by decide +kernel
theorem dL_law_22 : decode cL_law 22 = .ok (.isub, 1) := by decide +kernel
theorem dL_law_23 : decode cL_law 23 = .ok (.if_icmp .gt 844, 3) := by decide +kernel
theorem dL_law_26 : decode cL_law 26 = .ok (.aload_n 0, 1) := by decide +kernel
theorem dL_law_27 : decode cL_law 27 = .ok (.iload_n 3, 1) := by decide +kernel
theorem dL_law_28 : decode cL_law 28 = .ok (.iaload, 1) := by decide +kernel
theorem dL_law_29 : decode cL_law 29 = .ok (.bipush 31, 2) := by decide +kernel
theorem dL_law_31 : decode cL_law 31 = .ok (.iand, 1) := by decide +kernel
theorem dL_law_32 : decode cL_law 32 = .ok (.tableswitch 829 0 28 #[132, 165, 188, 221, 244, 267, 300, 323, 346, 359, 392, 425, 458, 491, 514, 537, 560, 603, 626, 649, 682, 705, 728, 751, 764, 777, 790, 803, 816], 132) := by decide +kernel
theorem dL_law_164 : decode cL_law 164 = .ok (.aload_n 1, 1) := by decide +kernel
theorem dL_law_165 : decode cL_law 165 = .ok (.aload_n 0, 1) := by decide +kernel
theorem dL_law_166 : decode cL_law 166 = .ok (.iload_n 3, 1) := by decide +kernel
theorem dL_law_167 : decode cL_law 167 = .ok (.iconst 1, 1) := by decide +kernel
theorem dL_law_168 : decode cL_law 168 = .ok (.iadd, 1) := by decide +kernel
theorem dL_law_169 : decode cL_law 169 = .ok (.iaload, 1) := by decide +kernel
theorem dL_law_170 : decode cL_law 170 = .ok (.aload_n 0, 1) := by decide +kernel
theorem dL_law_171 : decode cL_law 171 = .ok (.iload_n 3, 1) := by decide +kernel
theorem dL_law_172 : decode cL_law 172 = .ok (.iconst 2, 1) := by decide +kernel
theorem dL_law_173 : decode cL_law 173 = .ok (.iadd, 1) := by decide +kernel
theorem dL_law_174 : decode cL_law 174 = .ok (.iaload, 1) := by decide +kernel
theorem dL_law_175 : decode cL_law 175 = .ok (.invokevirtual 13, 3) := by decide +kernel
theorem dL_law_178 : decode cL_law 178 = .ok (.aload_n 2, 1) := by decide +kernel
theorem dL_law_179 : decode cL_law 179 = .ok (.aload_n 0, 1) := by decide +kernel
theorem dL_law_180 : decode cL_law 180 = .ok (.iload_n 3, 1) := by decide +kernel
theorem dL_law_181 : decode cL_law 181 = .ok (.iconst 1, 1) := by decide +kernel
theorem dL_law_182 : decode cL_law 182 = .ok (.iadd, 1) := by decide +kernel
theorem dL_law_183 : decode cL_law 183 = .ok (.iaload, 1) := by decide +kernel
theorem dL_law_184 : decode cL_law 184 = .ok (.aload_n 0, 1) := by decide +kernel
theorem dL_law_185 : decode cL_law 185 = .ok (.iload_n 3, 1) := by decide +kernel
theorem dL_law_186 : decode cL_law 186 = .ok (.iconst 2, 1) := by decide +kernel
theorem dL_law_187 : decode cL_law 187 = .ok (.iadd, 1) := by decide +kernel
theorem dL_law_188 : decode cL_law 188 = .ok (.iaload, 1) := by decide +kernel
theorem dL_law_189 : decode cL_law 189 = .ok (.invokevirtual 17, 3) := by decide +kernel
theorem dL_law_192 : decode cL_law 192 = .ok (.if_icmp .eq 669, 3) := by decide +kernel
theorem dL_law_195 : decode cL_law 195 = .ok (.iconst 0, 1) := by decide +kernel
theorem dL_law_196 : decode cL_law 196 = .ok (.ireturn, 1) := by decide +kernel
theorem dL_law_197 : decode cL_law 197 = .ok (.aload_n 1, 1) := by decide +kernel
theorem dL_law_198 : decode cL_law 198 = .ok (.aload_n 0, 1) := by decide +kernel
theorem dL_law_199 : decode cL_law 199 = .ok (.iload_n 3, 1) := by decide +kernel
theorem dL_law_200 : decode cL_law 200 = .ok (.iconst 1, 1) := by decide +kernel
theorem dL_law_201 : decode cL_law 201 = .ok (.iadd, 1) := by decide +kernel
theorem dL_law_202 : decode cL_law 202 = .ok (.iaload, 1) := by decide +kernel
theorem dL_law_203 : decode cL_law 203 = .ok (.invokevirtual 18, 3) := by decide +kernel
theorem dL_law_206 : decode cL_law 206 = .ok (.aload_n 2, 1) := by decide +kernel
theorem dL_law_207 : decode cL_law 207 = .ok (.aload_n 0, 1) := by decide +kernel
theorem dL_law_208 : decode cL_law 208 = .ok (.iload_n 3, 1) := by decide +kernel
theorem dL_law_209 : decode cL_law 209 = .ok (.iconst 1, 1) := by decide +kernel
theorem dL_law_210 : decode cL_law 210 = .ok (.iadd, 1) := by decide +kernel
theorem dL_law_211 : decode cL_law 211 = .ok (.iaload, 1) := by decide +kernel
theorem dL_law_212 : decode cL_law 212 = .ok (.invokevirtual 22, 3) := by decide +kernel
theorem dL_law_215 : decode cL_law 215 = .ok (.if_icmp .eq 646, 3) := by decide +kernel
theorem dL_law_218 : decode cL_law 218 = .ok (.iconst 0, 1) := by decide +kernel
theorem dL_law_219 : decode cL_law 219 = .ok (.ireturn, 1) := by decide +kernel
theorem dL_law_220 : decode cL_law 220 = .ok (.aload_n 1, 1) := by decide +kernel
theorem dL_law_221 : decode cL_law 221 = .ok (.aload_n 0, 1) := by decide +kernel
theorem dL_law_222 : decode cL_law 222 = .ok (.iload_n 3, 1) := by decide +kernel
theorem dL_law_223 : decode cL_law 223 = .ok (.iconst 1, 1) := by decide +kernel
theorem dL_law_224 : decode cL_law 224 = .ok (.iadd, 1) := by decide +kernel
theorem dL_law_225 : decode cL_law 225 = .ok (.iaload, 1) := by decide +kernel
theorem dL_law_226 : decode cL_law 226 = .ok (.aload_n 0, 1) := by decide +kernel
theorem dL_law_227 : decode cL_law 227 = .ok (.iload_n 3, 1) := by decide +kernel
theorem dL_law_228 : decode cL_law 228 = .ok (.iconst 2, 1) := by decide +kernel
theorem dL_law_229 : decode cL_law 229 = .ok (.iadd, 1) := by decide +kernel
theorem dL_law_230 : decode cL_law 230 = .ok (.iaload, 1) := by decide +kernel
theorem dL_law_231 : decode cL_law 231 = .ok (.invokevirtual 23, 3) := by decide +kernel
theorem dL_law_234 : decode cL_law 234 = .ok (.aload_n 2, 1) := by decide +kernel
theorem dL_law_235 : decode cL_law 235 = .ok (.aload_n 0, 1) := by decide +kernel
theorem dL_law_236 : decode cL_law 236 = .ok (.iload_n 3, 1) := by decide +kernel
theorem dL_law_237 : decode cL_law 237 = .ok (.iconst 1, 1) := by decide +kernel
theorem dL_law_238 : decode cL_law 238 = .ok (.iadd, 1) := by decide +kernel
theorem dL_law_239 : decode cL_law 239 = .ok (.iaload, 1) := by decide +kernel
theorem dL_law_240 : decode cL_law 240 = .ok (.aload_n 0, 1) := by decide +kernel
theorem dL_law_241 : decode cL_law 241 = .ok (.iload_n 3, 1) := by decide +kernel
theorem dL_law_242 : decode cL_law 242 = .ok (.iconst 2, 1) := by decide +kernel
theorem dL_law_243 : decode cL_law 243 = .ok (.iadd, 1) := by decide +kernel
theorem dL_law_244 : decode cL_law 244 = .ok (.iaload, 1) := by decide +kernel
theorem dL_law_245 : decode cL_law 245 = .ok (.invokevirtual 26, 3) := by decide +kernel
theorem dL_law_248 : decode cL_law 248 = .ok (.if_icmp .eq 613, 3) := by decide +kernel
theorem dL_law_251 : decode cL_law 251 = .ok (.iconst 0, 1) := by decide +kernel
theorem dL_law_252 : decode cL_law 252 = .ok (.ireturn, 1) := by decide +kernel
theorem dL_law_253 : decode cL_law 253 = .ok (.aload_n 1, 1) := by decide +kernel
theorem dL_law_254 : decode cL_law 254 = .ok (.aload_n 0, 1) := by decide +kernel
theorem dL_law_255 : decode cL_law 255 = .ok (.iload_n 3, 1) := by decide +kernel
theorem dL_law_256 : decode cL_law 256 = .ok (.iconst 1, 1) := by decide +kernel
theorem dL_law_257 : decode cL_law 257 = .ok (.iadd, 1) := by decide +kernel
theorem dL_law_258 : decode cL_law 258 = .ok (.iaload, 1) := by decide +kernel
theorem dL_law_259 : decode cL_law 259 = .ok (.invokevirtual 27, 3) := by decide +kernel
theorem dL_law_262 : decode cL_law 262 = .ok (.aload_n 2, 1) := by decide +kernel
theorem dL_law_263 : decode cL_law 263 = .ok (.aload_n 0, 1) := by decide +kernel
theorem dL_law_264 : decode cL_law 264 = .ok (.iload_n 3, 1) := by decide +kernel
theorem dL_law_265 : decode cL_law 265 = .ok (.iconst 1, 1) := by decide +kernel
theorem dL_law_266 : decode cL_law 266 = .ok (.iadd, 1) := by decide +kernel
theorem dL_law_267 : decode cL_law 267 = .ok (.iaload, 1) := by decide +kernel
theorem dL_law_268 : decode cL_law 268 = .ok (.invokevirtual 30, 3) := by decide +kernel
theorem dL_law_271 : decode cL_law 271 = .ok (.if_icmp .eq 590, 3) := by decide +kernel
theorem dL_law_274 : decode cL_law 274 = .ok (.iconst 0, 1) := by decide +kernel
theorem dL_law_275 : decode cL_law 275 = .ok (.ireturn, 1) := by decide +kernel
theorem dL_law_276 : decode cL_law 276 = .ok (.aload_n 1, 1) := by decide +kernel
theorem dL_law_277 : decode cL_law 277 = .ok (.aload_n 0, 1) := by decide +kernel
theorem dL_law_278 : decode cL_law 278 = .ok (.iload_n 3, 1) := by decide +kernel
theorem dL_law_279 : decode cL_law 279 = .ok (.iconst 1, 1) := by decide +kernel
theorem dL_law_280 : decode cL_law 280 = .ok (.iadd, 1) := by decide +kernel
theorem dL_law_281 : decode cL_law 281 = .ok (.iaload, 1) := by decide +kernel
theorem dL_law_282 : decode cL_law 282 = .ok (.invokevirtual 31, 3) := by decide +kernel
theorem dL_law_285 : decode cL_law 285 = .ok (.aload_n 2, 1) := by decide +kernel
theorem dL_law_286 : decode cL_law 286 = .ok (.aload_n 0, 1) := by decide +kernel
theorem dL_law_287 : decode cL_law 287 = .ok (.iload_n 3, 1) := by decide +kernel
theorem dL_law_288 : decode cL_law 288 = .ok (.iconst 1, 1) := by decide +kernel
theorem dL_law_289 : decode cL_law 289 = .ok (.iadd, 1) := by decide +kernel
theorem dL_law_290 : decode cL_law 290 = .ok (.iaload, 1) := by decide +kernel
theorem dL_law_291 : decode cL_law 291 = .ok (.invokevirtual 34, 3) := by decide +kernel
theorem dL_law_294 : decode cL_law 294 = .ok (.if_icmp .eq 567, 3) := by decide +kernel
theorem dL_law_297 : decode cL_law 297 = .ok (.iconst 0, 1) := by decide +kernel
theorem dL_law_298 : decode cL_law 298 = .ok (.ireturn, 1) := by decide +kernel
theorem dL_law_299 : decode cL_law 299 = .ok (.aload_n 1, 1) := by decide +kernel
theorem dL_law_300 : decode cL_law 300 = .ok (.aload_n 0, 1) := by decide +kernel
theorem dL_law_301 : decode cL_law 301 = .ok (.iload_n 3, 1) := by decide +kernel
theorem dL_law_302 : decode cL_law 302 = .ok (.iconst 1, 1) := by decide +kernel
theorem dL_law_303 : decode cL_law 303 = .ok (.iadd, 1) := by decide +kernel
theorem dL_law_304 : decode cL_law 304 = .ok (.iaload, 1) := by decide +kernel
theorem dL_law_305 : decode cL_law 305 = .ok (.aload_n 0, 1) := by decide +kernel
theorem dL_law_306 : decode cL_law 306 = .ok (.iload_n 3, 1) := by decide +kernel
theorem dL_law_307 : decode cL_law 307 = .ok (.iconst 2, 1) := by decide +kernel
theorem dL_law_308 : decode cL_law 308 = .ok (.iadd, 1) := by decide +kernel
theorem dL_law_309 : decode cL_law 309 = .ok (.iaload, 1) := by decide +kernel
theorem dL_law_310 : decode cL_law 310 = .ok (.invokevirtual 35, 3) := by decide +kernel
theorem dL_law_313 : decode cL_law 313 = .ok (.aload_n 2, 1) := by decide +kernel
theorem dL_law_314 : decode cL_law 314 = .ok (.aload_n 0, 1) := by decide +kernel
theorem dL_law_315 : decode cL_law 315 = .ok (.iload_n 3, 1) := by decide +kernel
theorem dL_law_316 : decode cL_law 316 = .ok (.iconst 1, 1) := by decide +kernel
theorem dL_law_317 : decode cL_law 317 = .ok (.iadd, 1) := by decide +kernel
theorem dL_law_318 : decode cL_law 318 = .ok (.iaload, 1) := by decide +kernel
theorem dL_law_319 : decode cL_law 319 = .ok (.aload_n 0, 1) := by decide +kernel
theorem dL_law_320 : decode cL_law 320 = .ok (.iload_n 3, 1) := by decide +kernel
theorem dL_law_321 : decode cL_law 321 = .ok (.iconst 2, 1) := by decide +kernel
theorem dL_law_322 : decode cL_law 322 = .ok (.iadd, 1) := by decide +kernel
theorem dL_law_323 : decode cL_law 323 = .ok (.iaload, 1) := by decide +kernel
theorem dL_law_324 : decode cL_law 324 = .ok (.invokevirtual 38, 3) := by decide +kernel
theorem dL_law_327 : decode cL_law 327 = .ok (.if_icmp .eq 534, 3) := by decide +kernel
theorem dL_law_330 : decode cL_law 330 = .ok (.iconst 0, 1) := by decide +kernel
theorem dL_law_331 : decode cL_law 331 = .ok (.ireturn, 1) := by decide +kernel
theorem dL_law_332 : decode cL_law 332 = .ok (.aload_n 1, 1) := by decide +kernel
theorem dL_law_333 : decode cL_law 333 = .ok (.aload_n 0, 1) := by decide +kernel
theorem dL_law_334 : decode cL_law 334 = .ok (.iload_n 3, 1) := by decide +kernel
theorem dL_law_335 : decode cL_law 335 = .ok (.iconst 1, 1) := by decide +kernel
theorem dL_law_336 : decode cL_law 336 = .ok (.iadd, 1) := by decide +kernel
theorem dL_law_337 : decode cL_law 337 = .ok (.iaload, 1) := by decide +kernel
theorem dL_law_338 : decode cL_law 338 = .ok (.invokevirtual 39, 3) := by decide +kernel
theorem dL_law_341 : decode cL_law 341 = .ok (.aload_n 2, 1) := by decide +kernel
theorem dL_law_342 : decode cL_law 342 = .ok (.aload_n 0, 1) := by decide +kernel
theorem dL_law_343 : decode cL_law 343 = .ok (.iload_n 3, 1) := by decide +kernel
theorem dL_law_344 : decode cL_law 344 = .ok (.iconst 1, 1) := by decide +kernel
theorem dL_law_345 : decode cL_law 345 = .ok (.iadd, 1) := by decide +kernel
theorem dL_law_346 : decode cL_law 346 = .ok (.iaload, 1) := by decide +kernel
theorem dL_law_347 : decode cL_law 347 = .ok (.invokevirtual 42, 3) := by decide +kernel
theorem dL_law_350 : decode cL_law 350 = .ok (.if_icmp .eq 511, 3) := by decide +kernel
theorem dL_law_353 : decode cL_law 353 = .ok (.iconst 0, 1) := by decide +kernel
theorem dL_law_354 : decode cL_law 354 = .ok (.ireturn, 1) := by decide +kernel
theorem dL_law_355 : decode cL_law 355 = .ok (.aload_n 1, 1) := by decide +kernel
theorem dL_law_356 : decode cL_law 356 = .ok (.aload_n 0, 1) := by decide +kernel
theorem dL_law_357 : decode cL_law 357 = .ok (.iload_n 3, 1) := by decide +kernel
theorem dL_law_358 : decode cL_law 358 = .ok (.iconst 1, 1) := by decide +kernel
theorem dL_law_359 : decode cL_law 359 = .ok (.iadd, 1) := by decide +kernel
theorem dL_law_360 : decode cL_law 360 = .ok (.iaload, 1) := by decide +kernel
theorem dL_law_361 : decode cL_law 361 = .ok (.invokevirtual 43, 3) := by decide +kernel
theorem dL_law_364 : decode cL_law 364 = .ok (.aload_n 2, 1) := by decide +kernel
theorem dL_law_365 : decode cL_law 365 = .ok (.aload_n 0, 1) := by decide +kernel
theorem dL_law_366 : decode cL_law 366 = .ok (.iload_n 3, 1) := by decide +kernel
theorem dL_law_367 : decode cL_law 367 = .ok (.iconst 1, 1) := by decide +kernel
theorem dL_law_368 : decode cL_law 368 = .ok (.iadd, 1) := by decide +kernel
theorem dL_law_369 : decode cL_law 369 = .ok (.iaload, 1) := by decide +kernel
theorem dL_law_370 : decode cL_law 370 = .ok (.invokevirtual 46, 3) := by decide +kernel
theorem dL_law_373 : decode cL_law 373 = .ok (.if_icmp .eq 488, 3) := by decide +kernel
theorem dL_law_376 : decode cL_law 376 = .ok (.iconst 0, 1) := by decide +kernel
theorem dL_law_377 : decode cL_law 377 = .ok (.ireturn, 1) := by decide +kernel
theorem dL_law_378 : decode cL_law 378 = .ok (.aload_n 1, 1) := by decide +kernel
theorem dL_law_379 : decode cL_law 379 = .ok (.invokevirtual 47, 3) := by decide +kernel
theorem dL_law_382 : decode cL_law 382 = .ok (.aload_n 2, 1) := by decide +kernel
theorem dL_law_383 : decode cL_law 383 = .ok (.invokevirtual 51, 3) := by decide +kernel
theorem dL_law_386 : decode cL_law 386 = .ok (.if_icmp .eq 475, 3) := by decide +kernel
theorem dL_law_389 : decode cL_law 389 = .ok (.iconst 0, 1) := by decide +kernel
theorem dL_law_390 : decode cL_law 390 = .ok (.ireturn, 1) := by decide +kernel
theorem dL_law_391 : decode cL_law 391 = .ok (.aload_n 1, 1) := by decide +kernel
theorem dL_law_392 : decode cL_law 392 = .ok (.aload_n 0, 1) := by decide +kernel
theorem dL_law_393 : decode cL_law 393 = .ok (.iload_n 3, 1) := by decide +kernel
theorem dL_law_394 : decode cL_law 394 = .ok (.iconst 1, 1) := by decide +kernel
theorem dL_law_395 : decode cL_law 395 = .ok (.iadd, 1) := by decide +kernel
theorem dL_law_396 : decode cL_law 396 = .ok (.iaload, 1) := by decide +kernel
theorem dL_law_397 : decode cL_law 397 = .ok (.aload_n 0, 1) := by decide +kernel
theorem dL_law_398 : decode cL_law 398 = .ok (.iload_n 3, 1) := by decide +kernel
theorem dL_law_399 : decode cL_law 399 = .ok (.iconst 2, 1) := by decide +kernel
theorem dL_law_400 : decode cL_law 400 = .ok (.iadd, 1) := by decide +kernel
theorem dL_law_401 : decode cL_law 401 = .ok (.iaload, 1) := by decide +kernel
theorem dL_law_402 : decode cL_law 402 = .ok (.invokevirtual 52, 3) := by decide +kernel
theorem dL_law_405 : decode cL_law 405 = .ok (.aload_n 2, 1) := by decide +kernel
theorem dL_law_406 : decode cL_law 406 = .ok (.aload_n 0, 1) := by decide +kernel
theorem dL_law_407 : decode cL_law 407 = .ok (.iload_n 3, 1) := by decide +kernel
theorem dL_law_408 : decode cL_law 408 = .ok (.iconst 1, 1) := by decide +kernel
theorem dL_law_409 : decode cL_law 409 = .ok (.iadd, 1) := by decide +kernel
theorem dL_law_410 : decode cL_law 410 = .ok (.iaload, 1) := by decide +kernel
theorem dL_law_411 : decode cL_law 411 = .ok (.aload_n 0, 1) := by decide +kernel
theorem dL_law_412 : decode cL_law 412 = .ok (.iload_n 3, 1) := by decide +kernel
theorem dL_law_413 : decode cL_law 413 = .ok (.iconst 2, 1) := by decide +kernel
theorem dL_law_414 : decode cL_law 414 = .ok (.iadd, 1) := by decide +kernel
theorem dL_law_415 : decode cL_law 415 = .ok (.iaload, 1) := by decide +kernel
theorem dL_law_416 : decode cL_law 416 = .ok (.invokevirtual 55, 3) := by decide +kernel
theorem dL_law_419 : decode cL_law 419 = .ok (.if_icmp .eq 442, 3) := by decide +kernel
theorem dL_law_422 : decode cL_law 422 = .ok (.iconst 0, 1) := by decide +kernel
theorem dL_law_423 : decode cL_law 423 = .ok (.ireturn, 1) := by decide +kernel
theorem dL_law_424 : decode cL_law 424 = .ok (.aload_n 1, 1) := by decide +kernel
theorem dL_law_425 : decode cL_law 425 = .ok (.aload_n 0, 1) := by decide +kernel
theorem dL_law_426 : decode cL_law 426 = .ok (.iload_n 3, 1) := by decide +kernel
theorem dL_law_427 : decode cL_law 427 = .ok (.iconst 1, 1) := by decide +kernel
theorem dL_law_428 : decode cL_law 428 = .ok (.iadd, 1) := by decide +kernel
theorem dL_law_429 : decode cL_law 429 = .ok (.iaload, 1) := by decide +kernel
theorem dL_law_430 : decode cL_law 430 = .ok (.aload_n 0, 1) := by decide +kernel
theorem dL_law_431 : decode cL_law 431 = .ok (.iload_n 3, 1) := by decide +kernel
theorem dL_law_432 : decode cL_law 432 = .ok (.iconst 2, 1) := by decide +kernel
theorem dL_law_433 : decode cL_law 433 = .ok (.iadd, 1) := by decide +kernel
theorem dL_law_434 : decode cL_law 434 = .ok (.iaload, 1) := by decide +kernel
theorem dL_law_435 : decode cL_law 435 = .ok (.invokevirtual 56, 3) := by decide +kernel
theorem dL_law_438 : decode cL_law 438 = .ok (.aload_n 2, 1) := by decide +kernel
theorem dL_law_439 : decode cL_law 439 = .ok (.aload_n 0, 1) := by decide +kernel
theorem dL_law_440 : decode cL_law 440 = .ok (.iload_n 3, 1) := by decide +kernel
theorem dL_law_441 : decode cL_law 441 = .ok (.iconst 1, 1) := by decide +kernel
theorem dL_law_442 : decode cL_law 442 = .ok (.iadd, 1) := by decide +kernel
theorem dL_law_443 : decode cL_law 443 = .ok (.iaload, 1) := by decide +kernel
theorem dL_law_444 : decode cL_law 444 = .ok (.aload_n 0, 1) := by decide +kernel
theorem dL_law_445 : decode cL_law 445 = .ok (.iload_n 3, 1) := by decide +kernel
theorem dL_law_446 : decode cL_law 446 = .ok (.iconst 2, 1) := by decide +kernel
theorem dL_law_447 : decode cL_law 447 = .ok (.iadd, 1) := by decide +kernel
theorem dL_law_448 : decode cL_law 448 = .ok (.iaload, 1) := by decide +kernel
theorem dL_law_449 : decode cL_law 449 = .ok (.invokevirtual 59, 3) := by decide +kernel
theorem dL_law_452 : decode cL_law 452 = .ok (.if_icmp .eq 409, 3) := by decide +kernel
theorem dL_law_455 : decode cL_law 455 = .ok (.iconst 0, 1) := by decide +kernel
theorem dL_law_456 : decode cL_law 456 = .ok (.ireturn, 1) := by decide +kernel
theorem dL_law_457 : decode cL_law 457 = .ok (.aload_n 1, 1) := by decide +kernel
theorem dL_law_458 : decode cL_law 458 = .ok (.aload_n 0, 1) := by decide +kernel
theorem dL_law_459 : decode cL_law 459 = .ok (.iload_n 3, 1) := by decide +kernel
theorem dL_law_460 : decode cL_law 460 = .ok (.iconst 1, 1) := by decide +kernel
theorem dL_law_461 : decode cL_law 461 = .ok (.iadd, 1) := by decide +kernel
theorem dL_law_462 : decode cL_law 462 = .ok (.iaload, 1) := by decide +kernel
theorem dL_law_463 : decode cL_law 463 = .ok (.aload_n 0, 1) := by decide +kernel
theorem dL_law_464 : decode cL_law 464 = .ok (.iload_n 3, 1) := by decide +kernel
theorem dL_law_465 : decode cL_law 465 = .ok (.iconst 2, 1) := by decide +kernel
theorem dL_law_466 : decode cL_law 466 = .ok (.iadd, 1) := by decide +kernel
theorem dL_law_467 : decode cL_law 467 = .ok (.iaload, 1) := by decide +kernel
theorem dL_law_468 : decode cL_law 468 = .ok (.invokevirtual 60, 3) := by decide +kernel
theorem dL_law_471 : decode cL_law 471 = .ok (.aload_n 2, 1) := by decide +kernel
theorem dL_law_472 : decode cL_law 472 = .ok (.aload_n 0, 1) := by decide +kernel
theorem dL_law_473 : decode cL_law 473 = .ok (.iload_n 3, 1) := by decide +kernel
theorem dL_law_474 : decode cL_law 474 = .ok (.iconst 1, 1) := by decide +kernel
theorem dL_law_475 : decode cL_law 475 = .ok (.iadd, 1) := by decide +kernel
theorem dL_law_476 : decode cL_law 476 = .ok (.iaload, 1) := by decide +kernel
theorem dL_law_477 : decode cL_law 477 = .ok (.aload_n 0, 1) := by decide +kernel
theorem dL_law_478 : decode cL_law 478 = .ok (.iload_n 3, 1) := by decide +kernel
theorem dL_law_479 : decode cL_law 479 = .ok (.iconst 2, 1) := by decide +kernel
theorem dL_law_480 : decode cL_law 480 = .ok (.iadd, 1) := by decide +kernel
theorem dL_law_481 : decode cL_law 481 = .ok (.iaload, 1) := by decide +kernel
theorem dL_law_482 : decode cL_law 482 = .ok (.invokevirtual 63, 3) := by decide +kernel
theorem dL_law_485 : decode cL_law 485 = .ok (.if_icmp .eq 376, 3) := by decide +kernel
theorem dL_law_488 : decode cL_law 488 = .ok (.iconst 0, 1) := by decide +kernel
theorem dL_law_489 : decode cL_law 489 = .ok (.ireturn, 1) := by decide +kernel
theorem dL_law_490 : decode cL_law 490 = .ok (.aload_n 1, 1) := by decide +kernel
theorem dL_law_491 : decode cL_law 491 = .ok (.aload_n 0, 1) := by decide +kernel
theorem dL_law_492 : decode cL_law 492 = .ok (.iload_n 3, 1) := by decide +kernel
theorem dL_law_493 : decode cL_law 493 = .ok (.iconst 1, 1) := by decide +kernel
theorem dL_law_494 : decode cL_law 494 = .ok (.iadd, 1) := by decide +kernel
theorem dL_law_495 : decode cL_law 495 = .ok (.iaload, 1) := by decide +kernel
theorem dL_law_496 : decode cL_law 496 = .ok (.aload_n 0, 1) := by decide +kernel
theorem dL_law_497 : decode cL_law 497 = .ok (.iload_n 3, 1) := by decide +kernel
theorem dL_law_498 : decode cL_law 498 = .ok (.iconst 2, 1) := by decide +kernel
theorem dL_law_499 : decode cL_law 499 = .ok (.iadd, 1) := by decide +kernel
theorem dL_law_500 : decode cL_law 500 = .ok (.iaload, 1) := by decide +kernel
theorem dL_law_501 : decode cL_law 501 = .ok (.invokevirtual 64, 3) := by decide +kernel
theorem dL_law_504 : decode cL_law 504 = .ok (.aload_n 2, 1) := by decide +kernel
theorem dL_law_505 : decode cL_law 505 = .ok (.aload_n 0, 1) := by decide +kernel
theorem dL_law_506 : decode cL_law 506 = .ok (.iload_n 3, 1) := by decide +kernel
theorem dL_law_507 : decode cL_law 507 = .ok (.iconst 1, 1) := by decide +kernel
theorem dL_law_508 : decode cL_law 508 = .ok (.iadd, 1) := by decide +kernel
theorem dL_law_509 : decode cL_law 509 = .ok (.iaload, 1) := by decide +kernel
theorem dL_law_510 : decode cL_law 510 = .ok (.aload_n 0, 1) := by decide +kernel
theorem dL_law_511 : decode cL_law 511 = .ok (.iload_n 3, 1) := by decide +kernel
theorem dL_law_512 : decode cL_law 512 = .ok (.iconst 2, 1) := by decide +kernel
theorem dL_law_513 : decode cL_law 513 = .ok (.iadd, 1) := by decide +kernel
theorem dL_law_514 : decode cL_law 514 = .ok (.iaload, 1) := by decide +kernel
theorem dL_law_515 : decode cL_law 515 = .ok (.invokevirtual 67, 3) := by decide +kernel
theorem dL_law_518 : decode cL_law 518 = .ok (.if_icmp .eq 343, 3) := by decide +kernel
theorem dL_law_521 : decode cL_law 521 = .ok (.iconst 0, 1) := by decide +kernel
theorem dL_law_522 : decode cL_law 522 = .ok (.ireturn, 1) := by decide +kernel
theorem dL_law_523 : decode cL_law 523 = .ok (.aload_n 1, 1) := by decide +kernel
theorem dL_law_524 : decode cL_law 524 = .ok (.aload_n 0, 1) := by decide +kernel
theorem dL_law_525 : decode cL_law 525 = .ok (.iload_n 3, 1) := by decide +kernel
theorem dL_law_526 : decode cL_law 526 = .ok (.iconst 1, 1) := by decide +kernel
theorem dL_law_527 : decode cL_law 527 = .ok (.iadd, 1) := by decide +kernel
theorem dL_law_528 : decode cL_law 528 = .ok (.iaload, 1) := by decide +kernel
theorem dL_law_529 : decode cL_law 529 = .ok (.invokevirtual 68, 3) := by decide +kernel
theorem dL_law_532 : decode cL_law 532 = .ok (.aload_n 2, 1) := by decide +kernel
theorem dL_law_533 : decode cL_law 533 = .ok (.aload_n 0, 1) := by decide +kernel
theorem dL_law_534 : decode cL_law 534 = .ok (.iload_n 3, 1) := by decide +kernel
theorem dL_law_535 : decode cL_law 535 = .ok (.iconst 1, 1) := by decide +kernel
theorem dL_law_536 : decode cL_law 536 = .ok (.iadd, 1) := by decide +kernel
theorem dL_law_537 : decode cL_law 537 = .ok (.iaload, 1) := by decide +kernel
theorem dL_law_538 : decode cL_law 538 = .ok (.invokevirtual 71, 3) := by decide +kernel
theorem dL_law_541 : decode cL_law 541 = .ok (.if_icmp .eq 320, 3) := by decide +kernel
theorem dL_law_544 : decode cL_law 544 = .ok (.iconst 0, 1) := by decide +kernel
theorem dL_law_545 : decode cL_law 545 = .ok (.ireturn, 1) := by decide +kernel
theorem dL_law_546 : decode cL_law 546 = .ok (.aload_n 1, 1) := by decide +kernel
theorem dL_law_547 : decode cL_law 547 = .ok (.aload_n 0, 1) := by decide +kernel
theorem dL_law_548 : decode cL_law 548 = .ok (.iload_n 3, 1) := by decide +kernel
theorem dL_law_549 : decode cL_law 549 = .ok (.iconst 1, 1) := by decide +kernel
theorem dL_law_550 : decode cL_law 550 = .ok (.iadd, 1) := by decide +kernel
theorem dL_law_551 : decode cL_law 551 = .ok (.iaload, 1) := by decide +kernel
theorem dL_law_552 : decode cL_law 552 = .ok (.invokevirtual 72, 3) := by decide +kernel
theorem dL_law_555 : decode cL_law 555 = .ok (.aload_n 2, 1) := by decide +kernel
theorem dL_law_556 : decode cL_law 556 = .ok (.aload_n 0, 1) := by decide +kernel
theorem dL_law_557 : decode cL_law 557 = .ok (.iload_n 3, 1) := by decide +kernel
theorem dL_law_558 : decode cL_law 558 = .ok (.iconst 1, 1) := by decide +kernel
theorem dL_law_559 : decode cL_law 559 = .ok (.iadd, 1) := by decide +kernel
theorem dL_law_560 : decode cL_law 560 = .ok (.iaload, 1) := by decide +kernel
theorem dL_law_561 : decode cL_law 561 = .ok (.invokevirtual 75, 3) := by decide +kernel
theorem dL_law_564 : decode cL_law 564 = .ok (.if_icmp .eq 297, 3) := by decide +kernel
theorem dL_law_567 : decode cL_law 567 = .ok (.iconst 0, 1) := by decide +kernel
theorem dL_law_568 : decode cL_law 568 = .ok (.ireturn, 1) := by decide +kernel
theorem dL_law_569 : decode cL_law 569 = .ok (.aload_n 1, 1) := by decide +kernel
theorem dL_law_570 : decode cL_law 570 = .ok (.aload_n 0, 1) := by decide +kernel
theorem dL_law_571 : decode cL_law 571 = .ok (.iload_n 3, 1) := by decide +kernel
theorem dL_law_572 : decode cL_law 572 = .ok (.iconst 1, 1) := by decide +kernel
theorem dL_law_573 : decode cL_law 573 = .ok (.iadd, 1) := by decide +kernel
theorem dL_law_574 : decode cL_law 574 = .ok (.iaload, 1) := by decide +kernel
theorem dL_law_575 : decode cL_law 575 = .ok (.invokevirtual 76, 3) := by decide +kernel
theorem dL_law_578 : decode cL_law 578 = .ok (.aload_n 2, 1) := by decide +kernel
theorem dL_law_579 : decode cL_law 579 = .ok (.aload_n 0, 1) := by decide +kernel
theorem dL_law_580 : decode cL_law 580 = .ok (.iload_n 3, 1) := by decide +kernel
theorem dL_law_581 : decode cL_law 581 = .ok (.iconst 1, 1) := by decide +kernel
theorem dL_law_582 : decode cL_law 582 = .ok (.iadd, 1) := by decide +kernel
theorem dL_law_583 : decode cL_law 583 = .ok (.iaload, 1) := by decide +kernel
theorem dL_law_584 : decode cL_law 584 = .ok (.invokevirtual 79, 3) := by decide +kernel
theorem dL_law_587 : decode cL_law 587 = .ok (.if_icmp .eq 274, 3) := by decide +kernel
theorem dL_law_590 : decode cL_law 590 = .ok (.iconst 0, 1) := by decide +kernel
theorem dL_law_591 : decode cL_law 591 = .ok (.ireturn, 1) := by decide +kernel
theorem dL_law_592 : decode cL_law 592 = .ok (.aload_n 1, 1) := by decide +kernel
theorem dL_law_593 : decode cL_law 593 = .ok (.aload_n 0, 1) := by decide +kernel
theorem dL_law_594 : decode cL_law 594 = .ok (.iload_n 3, 1) := by decide +kernel
theorem dL_law_595 : decode cL_law 595 = .ok (.iconst 1, 1) := by decide +kernel
theorem dL_law_596 : decode cL_law 596 = .ok (.iadd, 1) := by decide +kernel
theorem dL_law_597 : decode cL_law 597 = .ok (.iaload, 1) := by decide +kernel
theorem dL_law_598 : decode cL_law 598 = .ok (.aload_n 0, 1) := by decide +kernel
theorem dL_law_599 : decode cL_law 599 = .ok (.iload_n 3, 1) := by decide +kernel
theorem dL_law_600 : decode cL_law 600 = .ok (.iconst 2, 1) := by decide +kernel
theorem dL_law_601 : decode cL_law 601 = .ok (.iadd, 1) := by decide +kernel
theorem dL_law_602 : decode cL_law 602 = .ok (.iaload, 1) := by decide +kernel
theorem dL_law_603 : decode cL_law 603 = .ok (.aload_n 0, 1) := by decide +kernel
theorem dL_law_604 : decode cL_law 604 = .ok (.iload_n 3, 1) := by decide +kernel
theorem dL_law_605 : decode cL_law 605 = .ok (.iconst 3, 1) := by decide +kernel
theorem dL_law_606 : decode cL_law 606 = .ok (.iadd, 1) := by decide +kernel
theorem dL_law_607 : decode cL_law 607 = .ok (.iaload, 1) := by decide +kernel
theorem dL_law_608 : decode cL_law 608 = .ok (.invokevirtual 80, 3) := by decide +kernel
theorem dL_law_611 : decode cL_law 611 = .ok (.aload_n 2, 1) := by decide +kernel
theorem dL_law_612 : decode cL_law 612 = .ok (.aload_n 0, 1) := by decide +kernel
theorem dL_law_613 : decode cL_law 613 = .ok (.iload_n 3, 1) := by decide +kernel
theorem dL_law_614 : decode cL_law 614 = .ok (.iconst 1, 1) := by decide +kernel
theorem dL_law_615 : decode cL_law 615 = .ok (.iadd, 1) := by decide +kernel
theorem dL_law_616 : decode cL_law 616 = .ok (.iaload, 1) := by decide +kernel
theorem dL_law_617 : decode cL_law 617 = .ok (.aload_n 0, 1) := by decide +kernel
theorem dL_law_618 : decode cL_law 618 = .ok (.iload_n 3, 1) := by decide +kernel
theorem dL_law_619 : decode cL_law 619 = .ok (.iconst 2, 1) := by decide +kernel
theorem dL_law_620 : decode cL_law 620 = .ok (.iadd, 1) := by decide +kernel
theorem dL_law_621 : decode cL_law 621 = .ok (.iaload, 1) := by decide +kernel
theorem dL_law_622 : decode cL_law 622 = .ok (.aload_n 0, 1) := by decide +kernel
theorem dL_law_623 : decode cL_law 623 = .ok (.iload_n 3, 1) := by decide +kernel
theorem dL_law_624 : decode cL_law 624 = .ok (.iconst 3, 1) := by decide +kernel
theorem dL_law_625 : decode cL_law 625 = .ok (.iadd, 1) := by decide +kernel
theorem dL_law_626 : decode cL_law 626 = .ok (.iaload, 1) := by decide +kernel
theorem dL_law_627 : decode cL_law 627 = .ok (.invokevirtual 84, 3) := by decide +kernel
theorem dL_law_630 : decode cL_law 630 = .ok (.if_icmp .eq 231, 3) := by decide +kernel
theorem dL_law_633 : decode cL_law 633 = .ok (.iconst 0, 1) := by decide +kernel
theorem dL_law_634 : decode cL_law 634 = .ok (.ireturn, 1) := by decide +kernel
theorem dL_law_635 : decode cL_law 635 = .ok (.aload_n 1, 1) := by decide +kernel
theorem dL_law_636 : decode cL_law 636 = .ok (.aload_n 0, 1) := by decide +kernel
theorem dL_law_637 : decode cL_law 637 = .ok (.iload_n 3, 1) := by decide +kernel
theorem dL_law_638 : decode cL_law 638 = .ok (.iconst 1, 1) := by decide +kernel
theorem dL_law_639 : decode cL_law 639 = .ok (.iadd, 1) := by decide +kernel
theorem dL_law_640 : decode cL_law 640 = .ok (.iaload, 1) := by decide +kernel
theorem dL_law_641 : decode cL_law 641 = .ok (.invokevirtual 85, 3) := by decide +kernel
theorem dL_law_644 : decode cL_law 644 = .ok (.aload_n 2, 1) := by decide +kernel
theorem dL_law_645 : decode cL_law 645 = .ok (.aload_n 0, 1) := by decide +kernel
theorem dL_law_646 : decode cL_law 646 = .ok (.iload_n 3, 1) := by decide +kernel
theorem dL_law_647 : decode cL_law 647 = .ok (.iconst 1, 1) := by decide +kernel
theorem dL_law_648 : decode cL_law 648 = .ok (.iadd, 1) := by decide +kernel
theorem dL_law_649 : decode cL_law 649 = .ok (.iaload, 1) := by decide +kernel
theorem dL_law_650 : decode cL_law 650 = .ok (.invokevirtual 88, 3) := by decide +kernel
theorem dL_law_653 : decode cL_law 653 = .ok (.if_icmp .eq 208, 3) := by decide +kernel
theorem dL_law_656 : decode cL_law 656 = .ok (.iconst 0, 1) := by decide +kernel
theorem dL_law_657 : decode cL_law 657 = .ok (.ireturn, 1) := by decide +kernel
theorem dL_law_658 : decode cL_law 658 = .ok (.aload_n 1, 1) := by decide +kernel
theorem dL_law_659 : decode cL_law 659 = .ok (.aload_n 0, 1) := by decide +kernel
theorem dL_law_660 : decode cL_law 660 = .ok (.iload_n 3, 1) := by decide +kernel
theorem dL_law_661 : decode cL_law 661 = .ok (.iconst 1, 1) := by decide +kernel
theorem dL_law_662 : decode cL_law 662 = .ok (.iadd, 1) := by decide +kernel
theorem dL_law_663 : decode cL_law 663 = .ok (.iaload, 1) := by decide +kernel
theorem dL_law_664 : decode cL_law 664 = .ok (.invokevirtual 89, 3) := by decide +kernel
theorem dL_law_667 : decode cL_law 667 = .ok (.aload_n 2, 1) := by decide +kernel
theorem dL_law_668 : decode cL_law 668 = .ok (.aload_n 0, 1) := by decide +kernel
theorem dL_law_669 : decode cL_law 669 = .ok (.iload_n 3, 1) := by decide +kernel
theorem dL_law_670 : decode cL_law 670 = .ok (.iconst 1, 1) := by decide +kernel
theorem dL_law_671 : decode cL_law 671 = .ok (.iadd, 1) := by decide +kernel
theorem dL_law_672 : decode cL_law 672 = .ok (.iaload, 1) := by decide +kernel
theorem dL_law_673 : decode cL_law 673 = .ok (.invokevirtual 92, 3) := by decide +kernel
theorem dL_law_676 : decode cL_law 676 = .ok (.if_icmp .eq 185, 3) := by decide +kernel
theorem dL_law_679 : decode cL_law 679 = .ok (.iconst 0, 1) := by decide +kernel
theorem dL_law_680 : decode cL_law 680 = .ok (.ireturn, 1) := by decide +kernel
theorem dL_law_681 : decode cL_law 681 = .ok (.aload_n 1, 1) := by decide +kernel
theorem dL_law_682 : decode cL_law 682 = .ok (.aload_n 0, 1) := by decide +kernel
theorem dL_law_683 : decode cL_law 683 = .ok (.iload_n 3, 1) := by decide +kernel
theorem dL_law_684 : decode cL_law 684 = .ok (.iconst 1, 1) := by decide +kernel
theorem dL_law_685 : decode cL_law 685 = .ok (.iadd, 1) := by decide +kernel
theorem dL_law_686 : decode cL_law 686 = .ok (.iaload, 1) := by decide +kernel
theorem dL_law_687 : decode cL_law 687 = .ok (.aload_n 0, 1) := by decide +kernel
theorem dL_law_688 : decode cL_law 688 = .ok (.iload_n 3, 1) := by decide +kernel
theorem dL_law_689 : decode cL_law 689 = .ok (.iconst 2, 1) := by decide +kernel
theorem dL_law_690 : decode cL_law 690 = .ok (.iadd, 1) := by decide +kernel
theorem dL_law_691 : decode cL_law 691 = .ok (.iaload, 1) := by decide +kernel
theorem dL_law_692 : decode cL_law 692 = .ok (.invokevirtual 93, 3) := by decide +kernel
theorem dL_law_695 : decode cL_law 695 = .ok (.aload_n 2, 1) := by decide +kernel
theorem dL_law_696 : decode cL_law 696 = .ok (.aload_n 0, 1) := by decide +kernel
theorem dL_law_697 : decode cL_law 697 = .ok (.iload_n 3, 1) := by decide +kernel
theorem dL_law_698 : decode cL_law 698 = .ok (.iconst 1, 1) := by decide +kernel
theorem dL_law_699 : decode cL_law 699 = .ok (.iadd, 1) := by decide +kernel
theorem dL_law_700 : decode cL_law 700 = .ok (.iaload, 1) := by decide +kernel
theorem dL_law_701 : decode cL_law 701 = .ok (.aload_n 0, 1) := by decide +kernel
theorem dL_law_702 : decode cL_law 702 = .ok (.iload_n 3, 1) := by decide +kernel
theorem dL_law_703 : decode cL_law 703 = .ok (.iconst 2, 1) := by decide +kernel
theorem dL_law_704 : decode cL_law 704 = .ok (.iadd, 1) := by decide +kernel
theorem dL_law_705 : decode cL_law 705 = .ok (.iaload, 1) := by decide +kernel
theorem dL_law_706 : decode cL_law 706 = .ok (.invokevirtual 96, 3) := by decide +kernel
theorem dL_law_709 : decode cL_law 709 = .ok (.if_icmp .eq 152, 3) := by decide +kernel
theorem dL_law_712 : decode cL_law 712 = .ok (.iconst 0, 1) := by decide +kernel
theorem dL_law_713 : decode cL_law 713 = .ok (.ireturn, 1) := by decide +kernel
theorem dL_law_714 : decode cL_law 714 = .ok (.aload_n 1, 1) := by decide +kernel
theorem dL_law_715 : decode cL_law 715 = .ok (.aload_n 0, 1) := by decide +kernel
theorem dL_law_716 : decode cL_law 716 = .ok (.iload_n 3, 1) := by decide +kernel
theorem dL_law_717 : decode cL_law 717 = .ok (.iconst 1, 1) := by decide +kernel
theorem dL_law_718 : decode cL_law 718 = .ok (.iadd, 1) := by decide +kernel
theorem dL_law_719 : decode cL_law 719 = .ok (.iaload, 1) := by decide +kernel
theorem dL_law_720 : decode cL_law 720 = .ok (.invokevirtual 97, 3) := by decide +kernel
theorem dL_law_723 : decode cL_law 723 = .ok (.aload_n 2, 1) := by decide +kernel
theorem dL_law_724 : decode cL_law 724 = .ok (.aload_n 0, 1) := by decide +kernel
theorem dL_law_725 : decode cL_law 725 = .ok (.iload_n 3, 1) := by decide +kernel
theorem dL_law_726 : decode cL_law 726 = .ok (.iconst 1, 1) := by decide +kernel
theorem dL_law_727 : decode cL_law 727 = .ok (.iadd, 1) := by decide +kernel
theorem dL_law_728 : decode cL_law 728 = .ok (.iaload, 1) := by decide +kernel
theorem dL_law_729 : decode cL_law 729 = .ok (.invokevirtual 100, 3) := by decide +kernel
theorem dL_law_732 : decode cL_law 732 = .ok (.if_icmp .eq 129, 3) := by decide +kernel
theorem dL_law_735 : decode cL_law 735 = .ok (.iconst 0, 1) := by decide +kernel
theorem dL_law_736 : decode cL_law 736 = .ok (.ireturn, 1) := by decide +kernel
theorem dL_law_737 : decode cL_law 737 = .ok (.aload_n 1, 1) := by decide +kernel
theorem dL_law_738 : decode cL_law 738 = .ok (.aload_n 0, 1) := by decide +kernel
theorem dL_law_739 : decode cL_law 739 = .ok (.iload_n 3, 1) := by decide +kernel
theorem dL_law_740 : decode cL_law 740 = .ok (.iconst 1, 1) := by decide +kernel
theorem dL_law_741 : decode cL_law 741 = .ok (.iadd, 1) := by decide +kernel
theorem dL_law_742 : decode cL_law 742 = .ok (.iaload, 1) := by decide +kernel
theorem dL_law_743 : decode cL_law 743 = .ok (.invokevirtual 101, 3) := by decide +kernel
theorem dL_law_746 : decode cL_law 746 = .ok (.aload_n 2, 1) := by decide +kernel
theorem dL_law_747 : decode cL_law 747 = .ok (.aload_n 0, 1) := by decide +kernel
theorem dL_law_748 : decode cL_law 748 = .ok (.iload_n 3, 1) := by decide +kernel
theorem dL_law_749 : decode cL_law 749 = .ok (.iconst 1, 1) := by decide +kernel
theorem dL_law_750 : decode cL_law 750 = .ok (.iadd, 1) := by decide +kernel
theorem dL_law_751 : decode cL_law 751 = .ok (.iaload, 1) := by decide +kernel
theorem dL_law_752 : decode cL_law 752 = .ok (.invokevirtual 104, 3) := by decide +kernel
theorem dL_law_755 : decode cL_law 755 = .ok (.if_icmp .eq 106, 3) := by decide +kernel
theorem dL_law_758 : decode cL_law 758 = .ok (.iconst 0, 1) := by decide +kernel
theorem dL_law_759 : decode cL_law 759 = .ok (.ireturn, 1) := by decide +kernel
theorem dL_law_760 : decode cL_law 760 = .ok (.aload_n 1, 1) := by decide +kernel
theorem dL_law_761 : decode cL_law 761 = .ok (.aload_n 0, 1) := by decide +kernel
theorem dL_law_762 : decode cL_law 762 = .ok (.iload_n 3, 1) := by decide +kernel
theorem dL_law_763 : decode cL_law 763 = .ok (.iconst 1, 1) := by decide +kernel
theorem dL_law_764 : decode cL_law 764 = .ok (.iadd, 1) := by decide +kernel
theorem dL_law_765 : decode cL_law 765 = .ok (.iaload, 1) := by decide +kernel
theorem dL_law_766 : decode cL_law 766 = .ok (.invokevirtual 105, 3) := by decide +kernel
theorem dL_law_769 : decode cL_law 769 = .ok (.aload_n 2, 1) := by decide +kernel
theorem dL_law_770 : decode cL_law 770 = .ok (.aload_n 0, 1) := by decide +kernel
theorem dL_law_771 : decode cL_law 771 = .ok (.iload_n 3, 1) := by decide +kernel
theorem dL_law_772 : decode cL_law 772 = .ok (.iconst 1, 1) := by decide +kernel
theorem dL_law_773 : decode cL_law 773 = .ok (.iadd, 1) := by decide +kernel
theorem dL_law_774 : decode cL_law 774 = .ok (.iaload, 1) := by decide +kernel
theorem dL_law_775 : decode cL_law 775 = .ok (.invokevirtual 108, 3) := by decide +kernel
theorem dL_law_778 : decode cL_law 778 = .ok (.if_icmp .eq 83, 3) := by decide +kernel
theorem dL_law_781 : decode cL_law 781 = .ok (.iconst 0, 1) := by decide +kernel
theorem dL_law_782 : decode cL_law 782 = .ok (.ireturn, 1) := by decide +kernel
theorem dL_law_783 : decode cL_law 783 = .ok (.aload_n 1, 1) := by decide +kernel
theorem dL_law_784 : decode cL_law 784 = .ok (.invokevirtual 109, 3) := by decide +kernel
theorem dL_law_787 : decode cL_law 787 = .ok (.aload_n 2, 1) := by decide +kernel
theorem dL_law_788 : decode cL_law 788 = .ok (.invokevirtual 112, 3) := by decide +kernel
theorem dL_law_791 : decode cL_law 791 = .ok (.if_icmp .eq 70, 3) := by decide +kernel
theorem dL_law_794 : decode cL_law 794 = .ok (.iconst 0, 1) := by decide +kernel
theorem dL_law_795 : decode cL_law 795 = .ok (.ireturn, 1) := by decide +kernel
theorem dL_law_796 : decode cL_law 796 = .ok (.aload_n 1, 1) := by decide +kernel
theorem dL_law_797 : decode cL_law 797 = .ok (.invokevirtual 113, 3) := by decide +kernel
theorem dL_law_800 : decode cL_law 800 = .ok (.aload_n 2, 1) := by decide +kernel
theorem dL_law_801 : decode cL_law 801 = .ok (.invokevirtual 116, 3) := by decide +kernel
theorem dL_law_804 : decode cL_law 804 = .ok (.if_icmp .eq 57, 3) := by decide +kernel
theorem dL_law_807 : decode cL_law 807 = .ok (.iconst 0, 1) := by decide +kernel
theorem dL_law_808 : decode cL_law 808 = .ok (.ireturn, 1) := by decide +kernel
theorem dL_law_809 : decode cL_law 809 = .ok (.aload_n 1, 1) := by decide +kernel
theorem dL_law_810 : decode cL_law 810 = .ok (.invokevirtual 117, 3) := by decide +kernel
theorem dL_law_813 : decode cL_law 813 = .ok (.aload_n 2, 1) := by decide +kernel
theorem dL_law_814 : decode cL_law 814 = .ok (.invokevirtual 120, 3) := by decide +kernel
theorem dL_law_817 : decode cL_law 817 = .ok (.if_icmp .eq 44, 3) := by decide +kernel
theorem dL_law_820 : decode cL_law 820 = .ok (.iconst 0, 1) := by decide +kernel
theorem dL_law_821 : decode cL_law 821 = .ok (.ireturn, 1) := by decide +kernel
theorem dL_law_822 : decode cL_law 822 = .ok (.aload_n 1, 1) := by decide +kernel
theorem dL_law_823 : decode cL_law 823 = .ok (.invokevirtual 121, 3) := by decide +kernel
theorem dL_law_826 : decode cL_law 826 = .ok (.aload_n 2, 1) := by decide +kernel
theorem dL_law_827 : decode cL_law 827 = .ok (.invokevirtual 124, 3) := by decide +kernel
theorem dL_law_830 : decode cL_law 830 = .ok (.if_icmp .eq 31, 3) := by decide +kernel
theorem dL_law_833 : decode cL_law 833 = .ok (.iconst 0, 1) := by decide +kernel
theorem dL_law_834 : decode cL_law 834 = .ok (.ireturn, 1) := by decide +kernel
theorem dL_law_835 : decode cL_law 835 = .ok (.aload_n 1, 1) := by decide +kernel
theorem dL_law_836 : decode cL_law 836 = .ok (.invokevirtual 125, 3) := by decide +kernel
theorem dL_law_839 : decode cL_law 839 = .ok (.aload_n 2, 1) := by decide +kernel
theorem dL_law_840 : decode cL_law 840 = .ok (.invokevirtual 128, 3) := by decide +kernel
theorem dL_law_843 : decode cL_law 843 = .ok (.if_icmp .eq 18, 3) := by decide +kernel
theorem dL_law_846 : decode cL_law 846 = .ok (.iconst 0, 1) := by decide +kernel
theorem dL_law_847 : decode cL_law 847 = .ok (.ireturn, 1) := by decide +kernel
theorem dL_law_848 : decode cL_law 848 = .ok (.aload_n 1, 1) := by decide +kernel
theorem dL_law_849 : decode cL_law 849 = .ok (.invokevirtual 129, 3) := by decide +kernel
theorem dL_law_852 : decode cL_law 852 = .ok (.aload_n 2, 1) := by decide +kernel
theorem dL_law_853 : decode cL_law 853 = .ok (.invokevirtual 132, 3) := by decide +kernel
theorem dL_law_856 : decode cL_law 856 = .ok (.if_icmp .eq 5, 3) := by decide +kernel
theorem dL_law_859 : decode cL_law 859 = .ok (.iconst 0, 1) := by decide +kernel
theorem dL_law_860 : decode cL_law 860 = .ok (.ireturn, 1) := by decide +kernel
theorem dL_law_861 : decode cL_law 861 = .ok (.iinc 3 4, 3) := by decide +kernel
theorem dL_law_864 : decode cL_law 864 = .ok (.goto (-846), 3) := by decide +kernel
theorem dL_law_867 : decode cL_law 867 = .ok (.iconst 1, 1) := by decide +kernel
theorem dL_law_868 : decode cL_law 868 = .ok (.ireturn, 1) := by decide +kernel
abbrev vwCl : List vw_C := [(RX0, TX0, 3), (RX1, TX1, 14), (RX2, TX2, 2), (RX3, TX3, 8), (RX4, TX4, 14)]
end
section
/-! THE KIT OF THIS CLAIM: worlds in blocks, three kinds of contract, their calls and ends -/
theorem kz_nI_clamp {n : Nat} (h : n < 2 ^ 31) : (nI n).toNatClampNeg = n := nI_clamp h
-- links to private members of nest mates
def kz_N (U : State) : Prop := va_Nw (.methodLinkNest RX1 74 yX3_weekdayOf RX3) U ∧ va_Nw (.methodLinkNest RX1 78 yX3_indexFor RX3) U ∧ va_Nw (.methodLinkNest RX1 70 yX3_codeFor RX3) U ∧ va_Nw (.methodLinkNest RX1 85 yX3_indexOfCode RX3) U ∧ va_Nw (.methodLinkNest RX2 19 yX3_isWithin RX3) U ∧ va_Nw (.methodLinkNest RX3 31 yX2_init RX3) U ∧ va_Nw (.fieldLinkNest RX1 42 RX3 "AT_BEGINNING" "[I" RX3) U
theorem kz_N.warm {s U : State} (hW : s.WarmedH U.vm) (h : kz_N s) : kz_N U :=
  ⟨va_Nw.warmM hW h.1, va_Nw.warmM hW h.2.1, va_Nw.warmM hW h.2.2.1, va_Nw.warmM hW h.2.2.2.1, va_Nw.warmM hW h.2.2.2.2.1, va_Nw.warmM hW h.2.2.2.2.2.1, va_Nw.warmF hW h.2.2.2.2.2.2⟩
theorem kz_N.same {u U : State} (e : u.vm = U.vm) (h : kz_N u) : kz_N U :=
  ⟨va_Nw.same rfl e h.1, va_Nw.same rfl e h.2.1, va_Nw.same rfl e h.2.2.1, va_Nw.same rfl e h.2.2.2.1, va_Nw.same rfl e h.2.2.2.2.1, va_Nw.same rfl e h.2.2.2.2.2.1, va_Nw.same rfl e h.2.2.2.2.2.2⟩
abbrev kz_G : Type := va_G × ClassId × ClassId × ClassId
abbrev kz_ty (G : kz_G) : List (ClassId × FieldType) := [(G.2.1, .int), (G.2.2.1, .char), (G.2.2.2, .object RX1)]
def kz_K (G : kz_G) (U : State) : Prop := va_K G.1 vwCl (kz_ty G) U ∧ kz_N U
theorem kz_K.warm {G : kz_G} {s U : State} (hW : s.WarmedH U.vm) (h : kz_K G s) : kz_K G U := ⟨va_K.moved hW.alike h.1, h.2.warm hW⟩
theorem kz_K.call {G : kz_G} {U : State} {g : JFrame} {mk : MethodId} {a : Array Value} (h : kz_K G U) : kz_K G (U.calling g mk a) := ⟨va_K.moved (u := U) (U := U.calling g mk a) (Vm.Alike.refl U.vm) h.1, h.2.same rfl⟩
-- worlds in blocks
abbrev kz_B : Type := List va_W
abbrev kz_P (G : kz_G) (bs : kz_B) (H : Heap) : Prop := va_P G.1 vwCl bs.flatten H
abbrev kz_D (A : Nat → Prop) (bs : kz_B) : Prop := va_D A bs.flatten
abbrev kz_A (bs : kz_B) (sz : Nat) : Nat → Prop := va_A bs.flatten sz
theorem kz_P_iff {G : va_G} {ws : va_W} {H : Heap} : va_P G vwCl ws H ↔ ∀ q, q ∈ ws → va_at G vwCl q H := by
  constructor
  · intro h q hq
    obtain ⟨k, hk⟩ := List.mem_iff_getElem?.mp hq
    exact h k q hk
  · intro h k q hk
    exact h q (List.mem_of_getElem? hk)
theorem kz_P_mem {G : kz_G} {bs : kz_B} {H : Heap} : kz_P G bs H ↔ ∀ b, b ∈ bs → va_P G.1 vwCl b H := by
  show va_P G.1 vwCl bs.flatten H ↔ _
  rw [kz_P_iff]
  constructor
  · intro h b hb
    rw [kz_P_iff]
    exact fun q hq => h q (List.mem_flatten.mpr ⟨b, hb, hq⟩)
  · intro h q hq
    obtain ⟨b, hb, hq⟩ := List.mem_flatten.mp hq
    exact kz_P_iff.mp (h b hb) q hq
theorem kz_map_mem {bs cs : kz_B} {is : List Nat} (hs : is.map (fun i => bs[i]?) = cs.map some) {b : va_W} (hb : b ∈ cs) : ∃ i, i ∈ is ∧ bs[i]? = some b := by
  have h1 : some b ∈ cs.map some := List.mem_map.mpr ⟨b, hb, rfl⟩
  rw [← hs] at h1
  obtain ⟨i, hi, e⟩ := List.mem_map.mp h1
  exact ⟨i, hi, e⟩
theorem kz_P.sub {G : kz_G} {bs cs : kz_B} {H : Heap} (h : kz_P G bs H) (is : List Nat) (hs : is.map (fun i => bs[i]?) = cs.map some) : kz_P G cs H := by
  rw [kz_P_mem] at h ⊢
  intro b hb
  obtain ⟨i, -, e⟩ := kz_map_mem hs hb
  exact h b (List.mem_of_getElem? e)
theorem kz_D_iff {A : Nat → Prop} {ws : va_W} : va_D A ws ↔ ws.Pairwise (fun p q => p.1 ≠ q.1) ∧ ∀ q, q ∈ ws → A q.1 := by
  constructor
  · intro h
    refine ⟨?_, fun q hq => ?_⟩
    · rw [List.pairwise_iff_getElem]
      intro i j hi hj hij e
      have := h.1 i j ws[i] ws[j] (List.getElem?_eq_getElem hi) (List.getElem?_eq_getElem hj) e
      omega
    · obtain ⟨k, hk⟩ := List.mem_iff_getElem?.mp hq
      exact h.2 k q hk
  · intro h
    refine ⟨fun i j p q hp hq e => ?_, fun k q hk => h.2 q (List.mem_of_getElem? hk)⟩
    have h1 := h.1
    rw [List.pairwise_iff_getElem] at h1
    obtain ⟨hi, ep⟩ := List.getElem?_eq_some_iff.mp hp
    obtain ⟨hj, eq⟩ := List.getElem?_eq_some_iff.mp hq
    subst ep; subst eq
    rcases Nat.lt_trichotomy i j with c | c | c
    · exact absurd e (h1 i j hi hj c)
    · exact c
    · exact absurd e.symm (h1 j i hj hi c)
theorem kz_D_mem {A : Nat → Prop} {bs : kz_B} : kz_D A bs ↔ (∀ b, b ∈ bs → va_D A b) ∧ ∀ (i j : Nat) (b d : va_W), bs[i]? = some b → bs[j]? = some d → i ≠ j → ∀ x, x ∈ b → ∀ y, y ∈ d → x.1 ≠ y.1 := by
  show va_D A bs.flatten ↔ _
  rw [kz_D_iff, List.pairwise_flatten]
  constructor
  · intro h
    refine ⟨fun b hb => kz_D_iff.mpr ⟨h.1.1 b hb, fun q hq => h.2 q (List.mem_flatten.mpr ⟨b, hb, hq⟩)⟩, ?_⟩
    intro i j b d hi hj hne x hx y hy
    have h1 := h.1.2
    rw [List.pairwise_iff_getElem] at h1
    obtain ⟨li, ei⟩ := List.getElem?_eq_some_iff.mp hi
    obtain ⟨lj, ej⟩ := List.getElem?_eq_some_iff.mp hj
    subst ei; subst ej
    rcases Nat.lt_trichotomy i j with c | c | c
    · exact h1 i j li lj c x hx y hy
    · exact absurd c hne
    · exact fun e => h1 j i lj li c y hy x hx e.symm
  · intro h
    refine ⟨⟨fun b hb => (kz_D_iff.mp (h.1 b hb)).1, ?_⟩, fun q hq => ?_⟩
    · rw [List.pairwise_iff_getElem]
      intro i j hi hj hij x hx y hy
      exact h.2 i j bs[i] bs[j] (List.getElem?_eq_getElem hi) (List.getElem?_eq_getElem hj) (Nat.ne_of_lt hij) x hx y hy
    · obtain ⟨b, hb, hq⟩ := List.mem_flatten.mp hq
      exact (kz_D_iff.mp (h.1 b hb)).2 q hq
theorem kz_sel {bs cs : kz_B} {is : List Nat} (hs : is.map (fun i => bs[i]?) = cs.map some) {k : Nat} {b : va_W} (hk : cs[k]? = some b) : ∃ i, is[k]? = some i ∧ bs[i]? = some b := by
  have h1 : (cs.map some)[k]? = some (some b) := by rw [List.getElem?_map, hk]; rfl
  rw [← hs, List.getElem?_map] at h1
  cases h2 : is[k]? with
  | none => rw [h2] at h1; cases h1
  | some i => rw [h2] at h1; exact ⟨i, rfl, Option.some.inj h1⟩
theorem kz_D.sub {A : Nat → Prop} {bs cs : kz_B} (h : kz_D A bs) (is : List Nat) (hn : va_nd is = true) (hs : is.map (fun i => bs[i]?) = cs.map some) : kz_D A cs := by
  rw [kz_D_mem] at h ⊢
  refine ⟨fun b hb => ?_, ?_⟩
  · obtain ⟨i, -, e⟩ := kz_map_mem hs hb
    exact h.1 b (List.mem_of_getElem? e)
  · intro i j b d hi hj hne
    obtain ⟨i', ei, hi'⟩ := kz_sel hs hi
    obtain ⟨j', ej, hj'⟩ := kz_sel hs hj
    refine h.2 i' j' b d hi' hj' (fun e => hne ?_)
    subst e
    exact va_nd_inj is hn i j i' ei ej
theorem kz_D.weaken {A B : Nat → Prop} {bs : kz_B} (h : kz_D A bs) (hAB : ∀ q, A q → B q) : kz_D B bs := va_D.weaken h (fun _ _ _ q => hAB _ q)
theorem kz_D.self {A : Nat → Prop} {bs : kz_B} {sz : Nat} (h : kz_D A bs) : kz_D (kz_A bs sz) bs := va_D.self h
theorem kz_A_iff {bs : kz_B} {sz q : Nat} : kz_A bs sz q ↔ (∃ b, b ∈ bs ∧ ∃ x, x ∈ b ∧ x.1 = q) ∨ sz ≤ q := by
  show va_A bs.flatten sz q ↔ _
  unfold va_A
  constructor
  · rintro (⟨k, e, hk⟩ | h)
    · obtain ⟨b, hb, hx⟩ := List.mem_flatten.mp (List.mem_of_getElem? hk)
      exact Or.inl ⟨b, hb, (q, e), hx, rfl⟩
    · exact Or.inr h
  · rintro (⟨b, hb, x, hx, rfl⟩ | h)
    · obtain ⟨k, hk⟩ := List.mem_iff_getElem?.mp (List.mem_flatten.mpr ⟨b, hb, hx⟩)
      exact Or.inl ⟨k, x.2, hk⟩
    · exact Or.inr h
theorem kz_free {A0 : Nat → Prop} {bs cs : kz_B} {H0 H : Heap} {locs : List Loc} (hD : kz_D A0 bs) (hS : va_S A0 H0 H locs) (hA : ∀ q, H0.size ≤ q → A0 q) (is : List Nat) (hC : is.map (fun i => bs[i]?) = cs.map some) : ∀ q, kz_A cs H.size q → A0 q := by
  intro q hq
  rcases kz_A_iff.mp hq with ⟨b, hb, x, hx, rfl⟩ | h
  · obtain ⟨i, -, e⟩ := kz_map_mem hC hb
    exact (kz_D_iff.mp ((kz_D_mem.mp hD).1 b (List.mem_of_getElem? e))).2 x hx
  · exact hA q (Nat.le_trans hS.1 h)
theorem kz_join {A0 : Nat → Prop} {G : kz_G} {bs wc wr w1 : kz_B} {H H1 : Heap} (hP : kz_P G bs H) (hD : kz_D A0 bs) (isC isR : List Nat) (hC : isC.map (fun i => bs[i]?) = wc.map some) (hR : isR.map (fun i => bs[i]?) = wr.map some) (hn : va_nd isR = true) (hdis : ∀ i ∈ isR, i ∉ isC)
    (hk : ∀ q : Nat, q < H.size → ¬ kz_A wc H.size q → H1[q]? = H[q]?) (hF : ∀ q, kz_A wc H.size q → A0 q) (hP1 : kz_P G w1 H1) (hD1 : kz_D (kz_A wc H.size) w1) : kz_P G (wr ++ w1) H1 ∧ kz_D A0 (wr ++ w1) := by
  have hPr := hP.sub isR hR
  have hDr := hD.sub isR hn hR
  have hlt : ∀ b, b ∈ wr → ∀ x, x ∈ b → x.1 < H.size := fun b hb x hx => (kz_P_iff.mp (kz_P_mem.mp hPr b hb) x hx).lt
  have hna : ∀ b, b ∈ wr → ∀ x, x ∈ b → ¬ kz_A wc H.size x.1 := by
    intro b hb x hx hq
    rcases kz_A_iff.mp hq with ⟨d, hd, y, hy, e⟩ | h
    · obtain ⟨i, hi, ei⟩ := kz_map_mem hR hb
      obtain ⟨j, hj, ej⟩ := kz_map_mem hC hd
      refine (kz_D_mem.mp hD).2 i j b d ei ej (fun e2 => ?_) x hx y hy e.symm
      subst e2
      exact hdis i hi hj
    · have := hlt b hb x hx
      omega
  constructor
  · rw [kz_P_mem]
    intro b hb
    rcases List.mem_append.mp hb with hb | hb
    · rw [kz_P_iff]
      intro x hx
      exact (kz_P_iff.mp (kz_P_mem.mp hPr b hb) x hx).kept (hk _ (hlt b hb x hx) (hna b hb x hx))
    · exact kz_P_mem.mp hP1 b hb
  · show va_D A0 (wr ++ w1).flatten
    have hDr : va_D A0 wr.flatten := hDr
    have hD1 : va_D (va_A wc.flatten H.size) w1.flatten := hD1
    rw [List.flatten_append]
    refine va_D.app hDr (va_D.weaken hD1 (fun _ _ _ q => hF _ q)) ?_
    intro i j p q hp hq e
    obtain ⟨b, hb, hx⟩ := List.mem_flatten.mp (List.mem_of_getElem? hp)
    refine hna b hb p hx ?_
    rw [e]
    exact hD1.2 j q hq
def kz_rem (x y : Int32) : Int32 := x - x / y * y
def kz_chr (x : Int32) : Int32 := (x.toUInt32 % 65536).toInt32
-- CONTRACTS: a read (nothing changes), a change with an int, a change without an answer
def kz_rd (l : Launch) (G : kz_G) (y : MethodName) (ws : List Cond) (f n : Nat) (av : List Value) (bs : kz_B) (r : Int32) : Prop :=
  Met l y ws { frames := f, cells := 0, slots := 0, locals := n } (va_Pc av (fun U => kz_P G bs U.heap ∧ kz_K G U)) (vp_Si (fun x => x = r)) 0 0 (fun _ => False)
def kz_mi (l : Launch) (G : kz_G) (y : MethodName) (ws : List Cond) (f n : Nat) (av : List Value) (bs bs' : kz_B) (r : Int32) : Prop :=
  ∀ sz : Nat, Met l y ws { frames := f, cells := 0, slots := 0, locals := n } (va_Pc av (fun U => U.heap.size = sz ∧ kz_P G bs U.heap ∧ kz_K G U ∧ kz_D (fun _ => True) bs)) (va_Qi (fun x (_ : Unit) => x = r) (fun _ t => kz_P G bs' t.heap ∧ kz_D (kz_A bs sz) bs') (kz_A bs sz)) 0 0 (kz_A bs sz)
def kz_mv (l : Launch) (G : kz_G) (y : MethodName) (ws : List Cond) (f n : Nat) (av : List Value) (bs bs' : kz_B) : Prop :=
  ∀ sz : Nat, Met l y ws { frames := f, cells := 0, slots := 0, locals := n } (va_Pc av (fun U => U.heap.size = sz ∧ kz_P G bs U.heap ∧ kz_K G U ∧ kz_D (fun _ => True) bs)) (va_Qv (fun (_ : Unit) => True) (fun _ t => kz_P G bs' t.heap ∧ kz_D (kz_A bs sz) bs') (kz_A bs sz)) 0 0 (kz_A bs sz)
-- contracts over the static rows (an extra premise E of the free addresses, the state and the heap)
section KZ
variable {p : Program} {l : Launch} {e : Env} {R : Room} {s : State} {m : MethodId} {args : Array Value} {below : List Frame} {meth : Method} {c : Code} {H : Heap} {locs : List Loc} {cells slots : Nat} {Q : State → Prop}
variable {cc : ByteArray} {pc : Nat} {ls : Array Slot} {rest st0 : List Value} {G : kz_G} {Ts wy : List Cond} {own C host : String} {y : MethodName} {bytes : ByteArray} {maxL nL index k f n : Nat} {ret : Option FieldType} {As : List Value} {b : Nat} {bs cs cs' : kz_B} {r : Int32} {A : Nat → Prop}
/-- what is left of a call's price -/
theorem kz_recv (hK : kz_K G s) (hP : kz_P G cs H) {ci q0 : Nat} {q : vw_C} {fs : List Value} (hc : vwCl[ci]? = some q) (he : cs.flatten[q0]? = some (b, .inr (ci, fs))) : ∃ cell : Cell, H[b]? = some cell ∧ cell.vm.isStatics = false ∧ s.vm.findClass q.1 = some cell.cls := va_recv (D := G.1) (cl := vwCl) (tys := kz_ty G) hK.1 hP hc he
theorem kz_preR {av : List Value} (hK : kz_K G s) (hP : kz_P G cs H) : PreS s H (va_Pc av (fun U => kz_P G cs U.heap ∧ kz_K G U)) av :=
  ⟨fun a U g mk q => ⟨q.1, q.2.1, q.2.2.call⟩, fun U hU hW => ⟨rfl, by rw [hU]; exact hP, hK.warm hW⟩⟩
theorem kz_preM {av : List Value} (hK : kz_K G s) (hP : kz_P G cs H) (hD : kz_D A cs) : PreS s H (va_Pc av (fun U => U.heap.size = H.size ∧ kz_P G cs U.heap ∧ kz_K G U ∧ kz_D (fun _ => True) cs)) av :=
  ⟨fun a U g mk q => ⟨q.1, q.2.1, q.2.2.1, q.2.2.2.1.call, q.2.2.2.2⟩, fun U hU hW => ⟨rfl, by rw [hU], by rw [hU]; exact hP, hK.warm hW, hD.weaken (fun _ _ => trivial)⟩⟩
/-- a run that returns an int and changes nothing -/
theorem kz_goR {post : Int32 → Prop} {a : Array Value} (hr : va_Run p l e R s m args below meth c H locs cells slots 0 0 (F0 m pc ls st0) rest (vp_Si post a) (fun _ => False)) (kk : ∀ x : Int32, post x → W p l e R s m args below meth c H locs cells slots Q (F0 m (pc + 3) ls (.int x :: rest))) : W p l e R s m args below meth c H locs cells slots Q (F0 m pc ls st0) := by
  intro T hT X
  obtain ⟨v, st₀, t, T', L, h0, X', hL, e1, -, ⟨x, hv, hp, hh⟩, st⟩ := hr T hT X
  cases hv
  obtain ⟨t2, a1, b1⟩ := kk x hp T' (by rw [e1, hh, h0]) (Stand.forget X' (fun q h => (hL q h).elim))
  exact ⟨t2, st t2 a1, b1⟩
abbrev kz_rm (f n : Nat) : Room := { frames := f, cells := 0, slots := 0, locals := n }
theorem kz_rdV (S : CallFix p m c cc nL s args Ts own) (hM : kz_rd l G y wy f n (.ref b :: As) cs r) (cw : CallW R s args own C index y bytes maxL ret wy (kz_rm f n) 0 0 k) (hK : kz_K G s) (hP : kz_P G cs H) (hrv : ∃ cell : Cell, H[b]? = some cell ∧ cell.vm.isStatics = false ∧ s.vm.findClass C = some cell.cls)
    (hn : As.length = k) (hsize : ls.size = nL) (hstack : st0 = As.reverse ++ .ref b :: rest) (hW : (rest.map fun v => v.category).sum ≤ 8) (hdg : decode cc pc = .ok (.invokevirtual index, 3)) (hf : cells ≤ R.cells ∧ slots ≤ R.slots)
    (kk : W p l e R s m args below meth c H locs cells slots Q (F0 m (pc + 3) ls (.int r :: rest))) : W p l e R s m args below meth c H locs cells slots Q (F0 m pc ls st0) :=
  kz_goR (va_runV (As := As) (rest := rest) (b := b) S hM cw ⟨(kz_preR (av := .ref b :: As) hK hP).1, hrv, (kz_preR (av := .ref b :: As) hK hP).2⟩ rfl hn hsize hstack (lv_room (pc := pc) (ls := ls) (m := m) (rest := rest) hW) hdg hf) (fun x hx => by subst hx; exact kk)
theorem kz_rdS (S : CallFix p m c cc nL s args Ts own) (hM : kz_rd l G y wy f n As cs r) (cw : CallB R s args own index y bytes maxL ret wy (kz_rm f n) 0 0 k ∧ (Cond.static y).before args s = true) (hK : kz_K G s) (hP : kz_P G cs H)
    (hn : As.length = k) (hsize : ls.size = nL) (hstack : st0 = As.reverse ++ rest) (hW : (rest.map fun v => v.category).sum ≤ 8) (hdg : decode cc pc = .ok (.invokestatic index, 3)) (hf : cells ≤ R.cells ∧ slots ≤ R.slots)
    (kk : W p l e R s m args below meth c H locs cells slots Q (F0 m (pc + 3) ls (.int r :: rest))) : W p l e R s m args below meth c H locs cells slots Q (F0 m pc ls st0) :=
  kz_goR (va_runS (As := As) (rest := rest) S hM cw (kz_preR hK hP) rfl hn hsize hstack (lv_room (pc := pc) (ls := ls) (m := m) (rest := rest) hW) hdg hf) (fun x hx => by subst hx; exact kk)
theorem kz_rdSN (S : CallFix p m c cc nL s args Ts own) (hM : kz_rd l G y wy f n As cs r) (cw : va_CN R s args own index y host bytes maxL ret wy (kz_rm f n) 0 0 k ∧ (Cond.static y).before args s = true ∧ True) (hK : kz_K G s) (hP : kz_P G cs H)
    (hn : As.length = k) (hsize : ls.size = nL) (hstack : st0 = As.reverse ++ rest) (hW : (rest.map fun v => v.category).sum ≤ 8) (hdg : decode cc pc = .ok (.invokestatic index, 3)) (hf : cells ≤ R.cells ∧ slots ≤ R.slots)
    (kk : W p l e R s m args below meth c H locs cells slots Q (F0 m (pc + 3) ls (.int r :: rest))) : W p l e R s m args below meth c H locs cells slots Q (F0 m pc ls st0) :=
  kz_goR (va_runSN (As := As) (rest := rest) S hM cw (kz_preR hK hP) rfl hn hsize hstack (lv_room (pc := pc) (ls := ls) (m := m) (rest := rest) hW) hdg hf) (fun x hx => by subst hx; exact kk)
/-- a change with an answer, by invokevirtual: isC the callee's blocks, isR the rest's, then all again in the order of isP -/
theorem kz_miV (S : CallFix p m c cc nL s args Ts own) (hM : kz_mi l G y wy f n (.ref b :: As) cs cs' r) (cw : CallW R s args own C index y bytes maxL ret wy (kz_rm f n) 0 0 k) (hK : kz_K G s) (hP : kz_P G bs H) (hD : kz_D A bs) (hS : va_S A s.heap H locs) (hA : ∀ q, s.heap.size ≤ q → A q) (isC isR isP : List Nat) {wr bs' : kz_B}
    (hC : isC.map (fun i => bs[i]?) = cs.map some) (hnC : va_nd isC = true) (hR : isR.map (fun i => bs[i]?) = wr.map some) (hnR : va_nd isR = true) (hdis : ∀ i ∈ isR, i ∉ isC) (hO : isP.map (fun i => (wr ++ cs')[i]?) = bs'.map some) (hnO : va_nd isP = true)
    (hrv : ∃ cell : Cell, H[b]? = some cell ∧ cell.vm.isStatics = false ∧ s.vm.findClass C = some cell.cls)
    (hn : As.length = k) (hsize : ls.size = nL) (hstack : st0 = As.reverse ++ .ref b :: rest) (hW : (rest.map fun v => v.category).sum ≤ 8) (hdg : decode cc pc = .ok (.invokevirtual index, 3)) (hf : cells ≤ R.cells ∧ slots ≤ R.slots)
    (kk : ∀ (H1 : Heap) (locs1 : List Loc), kz_P G bs' H1 → kz_D A bs' → va_S A s.heap H1 locs1 → W p l e R s m args below meth c H1 locs1 cells slots Q (F0 m (pc + 3) ls (.int r :: rest))) : W p l e R s m args below meth c H locs cells slots Q (F0 m pc ls st0) := by
  have hPc := hP.sub isC hC
  have hDc := hD.sub isC hnC hC
  have hF := kz_free hD hS hA isC hC
  refine va_calli (va_runV (As := As) (rest := rest) (b := b) S (hM H.size) cw ⟨(kz_preM (av := .ref b :: As) hK hPc hDc).1, hrv, (kz_preM (av := .ref b :: As) hK hPc hDc).2⟩ rfl hn hsize hstack (lv_room (pc := pc) (ls := ls) (m := m) (rest := rest) hW) hdg hf) hS (fun q _ h => hF q h) hF (fun x u t H1 locs1 ht hvm hw hB hz1 hk1 hS1 => ?_)
  subst hw
  obtain ⟨hP1, hD1⟩ := hB
  rw [ht] at hP1
  obtain ⟨hP2, hD2⟩ := kz_join hP hD isC isR hC hR hnR hdis hk1 hF hP1 hD1
  exact kk H1 locs1 (hP2.sub isP hO) (hD2.sub isP hnO hO) hS1
theorem kz_mvV (S : CallFix p m c cc nL s args Ts own) (hM : kz_mv l G y wy f n (.ref b :: As) cs cs') (cw : CallW R s args own C index y bytes maxL ret wy (kz_rm f n) 0 0 k) (hK : kz_K G s) (hP : kz_P G bs H) (hD : kz_D A bs) (hS : va_S A s.heap H locs) (hA : ∀ q, s.heap.size ≤ q → A q) (isC isR isP : List Nat) {wr bs' : kz_B}
    (hC : isC.map (fun i => bs[i]?) = cs.map some) (hnC : va_nd isC = true) (hR : isR.map (fun i => bs[i]?) = wr.map some) (hnR : va_nd isR = true) (hdis : ∀ i ∈ isR, i ∉ isC) (hO : isP.map (fun i => (wr ++ cs')[i]?) = bs'.map some) (hnO : va_nd isP = true)
    (hrv : ∃ cell : Cell, H[b]? = some cell ∧ cell.vm.isStatics = false ∧ s.vm.findClass C = some cell.cls)
    (hn : As.length = k) (hsize : ls.size = nL) (hstack : st0 = As.reverse ++ .ref b :: rest) (hW : (rest.map fun v => v.category).sum ≤ 8) (hdg : decode cc pc = .ok (.invokevirtual index, 3)) (hf : cells ≤ R.cells ∧ slots ≤ R.slots)
    (kk : ∀ (H1 : Heap) (locs1 : List Loc), kz_P G bs' H1 → kz_D A bs' → va_S A s.heap H1 locs1 → W p l e R s m args below meth c H1 locs1 cells slots Q (F0 m (pc + 3) ls rest)) : W p l e R s m args below meth c H locs cells slots Q (F0 m pc ls st0) := by
  have hPc := hP.sub isC hC
  have hDc := hD.sub isC hnC hC
  have hF := kz_free hD hS hA isC hC
  refine va_callv (va_runV (As := As) (rest := rest) (b := b) S (hM H.size) cw ⟨(kz_preM (av := .ref b :: As) hK hPc hDc).1, hrv, (kz_preM (av := .ref b :: As) hK hPc hDc).2⟩ rfl hn hsize hstack (lv_room (pc := pc) (ls := ls) (m := m) (rest := rest) hW) hdg hf) hS (fun q _ h => hF q h) hF (fun u t H1 locs1 ht hvm hw hB hz1 hk1 hS1 => ?_)
  obtain ⟨hP1, hD1⟩ := hB
  rw [ht] at hP1
  obtain ⟨hP2, hD2⟩ := kz_join hP hD isC isR hC hR hnR hdis hk1 hF hP1 hD1
  exact kk H1 locs1 (hP2.sub isP hO) (hD2.sub isP hnO hO) hS1
theorem kz_start {g : JFrame} (k : ∀ QQ : State → Prop, QQ = Q → W p l e R s m args below meth c H locs cells slots QQ g) : W p l e R s m args below meth c H locs cells slots Q g := k _ rfl
theorem kz_topR {x y : Int32} (k : W p l e R s m args below meth c H locs cells slots Q (F0 m pc ls (.int (kz_rem x y) :: rest))) : W p l e R s m args below meth c H locs cells slots Q (F0 m pc ls (.int (x - x / y * y) :: rest)) := k
theorem kz_tab (hexec : p.tables.exec = Jvm.exec) (hb : c.code = cc) {dflt lo hi : Int} {offs : Array Int} {len : Nat} {x : Int32} {tgt : Nat} (hdg : decode cc pc = .ok (.tableswitch dflt lo hi offs, len)) (h : ¬ x.toInt < lo → ¬ hi < x.toInt → offs[(x.toInt - lo).toNat]? = some dflt) (ht : (pc : Int) + dflt = (tgt : Int)) (kk : W p l e R s m args below meth c H locs cells slots Q (F0 m tgt ls rest)) : W p l e R s m args below meth c H locs cells slots Q (F0 m pc ls (.int x :: rest)) := by
  by_cases h1 : x.toInt < lo
  · exact lv_tableOut hexec hb hdg (Or.inl h1) ht kk
  · by_cases h2 : hi < x.toInt
    · exact lv_tableOut hexec hb hdg (Or.inr h2) ht kk
    · exact lv_tableIn hexec hb hdg h1 h2 (h h1 h2) ht kk
end KZ
theorem kz_cell {G : kz_G} {bs : kz_B} {H : Heap} (h : kz_P G bs H) (k : Nat) {q : Nat × va_E} (hk : bs.flatten[k]? = some q) : kz_P G [[q]] H := by
  intro i x hx
  cases i with
  | zero => cases hx; exact h k _ hk
  | succ i => cases hx
end
