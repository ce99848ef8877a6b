/-! Every instruction of the tables is what the bytes decode to. -/
def ka_dok (b : ByteArray) (q : Nat × Instr × Nat) : Bool := decide (decode b q.1 = .ok q.2) && (ka_len q.2.1 == 0 || ka_len q.2.1 == q.2.2)
theorem ka_chunks {l : List (Nat × Instr × Nat)} {b : ByteArray} (n : Nat) (js : List Nat) (hj : (js.flatMap (fun j => (l.drop j).take n)) = l) (h : ∀ j ∈ js, ∀ q ∈ (l.drop j).take n, ka_dok b q = true) : ∀ q ∈ l, ka_dok b q = true := by
  intro q hq
  rw [← hj] at hq
  obtain ⟨j, h1, h2⟩ := List.mem_flatMap.mp hq
  exact h j h1 q h2
theorem kd0_0 : ∀ q ∈ (km_I0.drop 0).take 60, ka_dok code q = true := by decide +kernel
theorem kd0_1 : ∀ q ∈ (km_I0.drop 60).take 60, ka_dok code q = true := by decide +kernel
theorem kd0_2 : ∀ q ∈ (km_I0.drop 120).take 60, ka_dok code q = true := by decide +kernel
theorem kd0_3 : ∀ q ∈ (km_I0.drop 180).take 60, ka_dok code q = true := by decide +kernel
theorem kd0_4 : ∀ q ∈ (km_I0.drop 240).take 60, ka_dok code q = true := by decide +kernel
theorem kd0_5 : ∀ q ∈ (km_I0.drop 300).take 60, ka_dok code q = true := by decide +kernel
theorem kd0_6 : ∀ q ∈ (km_I0.drop 360).take 60, ka_dok code q = true := by decide +kernel
theorem kd0_7 : ∀ q ∈ (km_I0.drop 420).take 60, ka_dok code q = true := by decide +kernel
theorem kd0_8 : ∀ q ∈ (km_I0.drop 480).take 60, ka_dok code q = true := by decide +kernel
theorem kd0_9 : ∀ q ∈ (km_I0.drop 540).take 60, ka_dok code q = true := by decide +kernel
theorem kd0_10 : ∀ q ∈ (km_I0.drop 600).take 60, ka_dok code q = true := by decide +kernel
theorem kd0_11 : ∀ q ∈ (km_I0.drop 660).take 60, ka_dok code q = true := by decide +kernel
theorem kd0_12 : ∀ q ∈ (km_I0.drop 720).take 60, ka_dok code q = true := by decide +kernel
theorem kd0_13 : ∀ q ∈ (km_I0.drop 780).take 60, ka_dok code q = true := by decide +kernel
theorem kd0 : ∀ q ∈ km_I0, ka_dok code q = true := ka_chunks 60 [0, 60, 120, 180, 240, 300, 360, 420, 480, 540, 600, 660, 720, 780] (by decide +kernel) (List.forall_mem_cons.mpr ⟨kd0_0, List.forall_mem_cons.mpr ⟨kd0_1, List.forall_mem_cons.mpr ⟨kd0_2, List.forall_mem_cons.mpr ⟨kd0_3, List.forall_mem_cons.mpr ⟨kd0_4, List.forall_mem_cons.mpr ⟨kd0_5, List.forall_mem_cons.mpr ⟨kd0_6, List.forall_mem_cons.mpr ⟨kd0_7, List.forall_mem_cons.mpr ⟨kd0_8, List.forall_mem_cons.mpr ⟨kd0_9, List.forall_mem_cons.mpr ⟨kd0_10, List.forall_mem_cons.mpr ⟨kd0_11, List.forall_mem_cons.mpr ⟨kd0_12, List.forall_mem_cons.mpr ⟨kd0_13, fun _ h => absurd h List.not_mem_nil⟩⟩⟩⟩⟩⟩⟩⟩⟩⟩⟩⟩⟩⟩)
theorem kd1 : ∀ q ∈ km_I1, ka_dok method_3_code q = true := by decide +kernel
theorem kd2 : ∀ q ∈ km_I2, ka_dok method_4_code q = true := by decide +kernel
theorem kd3 : ∀ q ∈ km_I3, ka_dok method_5_code q = true := by decide +kernel
theorem kd4 : ∀ q ∈ km_I4, ka_dok method_6_code q = true := by decide +kernel
theorem kd5 : ∀ q ∈ km_I5, ka_dok method_7_code q = true := by decide +kernel
theorem kd6 : ∀ q ∈ km_I6, ka_dok method_8_code q = true := by decide +kernel
theorem kd7 : ∀ q ∈ km_I7, ka_dok method_9_code q = true := by decide +kernel
theorem kd8 : ∀ q ∈ km_I8, ka_dok method_10_code q = true := by decide +kernel
theorem kd9 : ∀ q ∈ km_I9, ka_dok method_11_code q = true := by decide +kernel
theorem kd10 : ∀ q ∈ km_I10, ka_dok method_12_code q = true := by decide +kernel
theorem kd11 : ∀ q ∈ km_I11, ka_dok method_13_code q = true := by decide +kernel
theorem kd12 : ∀ q ∈ km_I12, ka_dok method_14_code q = true := by decide +kernel
theorem kd13 : ∀ q ∈ km_I13, ka_dok method_15_code q = true := by decide +kernel
theorem kd14 : ∀ q ∈ km_I14, ka_dok method_16_code q = true := by decide +kernel
theorem kd15 : ∀ q ∈ km_I15, ka_dok method_17_code q = true := by decide +kernel
theorem kd16 : ∀ q ∈ km_I16, ka_dok method_18_code q = true := by decide +kernel
theorem kd17 : ∀ q ∈ km_I17, ka_dok method_19_code q = true := by decide +kernel
theorem kd18 : ∀ q ∈ km_I18, ka_dok method_20_code q = true := by decide +kernel
theorem kd19 : ∀ q ∈ km_I19, ka_dok method_21_code q = true := by decide +kernel
theorem kd20 : ∀ q ∈ km_I20, ka_dok prog_1_method_1_code q = true := by decide +kernel
theorem kd21 : ∀ q ∈ km_I21, ka_dok prog_1_method_2_code q = true := by decide +kernel
theorem kd22 : ∀ q ∈ km_I22, ka_dok prog_1_method_3_code q = true := by decide +kernel
theorem kd23 : ∀ q ∈ km_I23, ka_dok prog_1_method_4_code q = true := by decide +kernel
theorem kd24 : ∀ q ∈ km_I24, ka_dok prog_1_method_5_code q = true := by decide +kernel
theorem kd25 : ∀ q ∈ km_I25, ka_dok prog_1_method_6_code q = true := by decide +kernel
theorem kd26 : ∀ q ∈ km_I26, ka_dok prog_1_method_7_code q = true := by decide +kernel
theorem kd27 : ∀ q ∈ km_I27, ka_dok prog_1_method_8_code q = true := by decide +kernel
theorem kd28 : ∀ q ∈ km_I28, ka_dok prog_1_method_9_code q = true := by decide +kernel
theorem kd29 : ∀ q ∈ km_I29, ka_dok prog_1_method_10_code q = true := by decide +kernel
theorem kd30 : ∀ q ∈ km_I30, ka_dok prog_1_method_11_code q = true := by decide +kernel
theorem kd31 : ∀ q ∈ km_I31, ka_dok prog_1_method_12_code q = true := by decide +kernel
theorem kd32 : ∀ q ∈ km_I32, ka_dok prog_1_method_13_code q = true := by decide +kernel
theorem kd33 : ∀ q ∈ km_I33, ka_dok prog_1_method_14_code q = true := by decide +kernel
theorem kd34 : ∀ q ∈ km_I34, ka_dok prog_1_method_15_code q = true := by decide +kernel
theorem kd35 : ∀ q ∈ km_I35, ka_dok prog_1_method_16_code q = true := by decide +kernel
theorem kd36 : ∀ q ∈ km_I36, ka_dok prog_1_method_17_code q = true := by decide +kernel
theorem kd37 : ∀ q ∈ km_I37, ka_dok prog_1_method_18_code q = true := by decide +kernel
theorem kd38 : ∀ q ∈ km_I38, ka_dok prog_1_method_19_code q = true := by decide +kernel
theorem kd39 : ∀ q ∈ km_I39, ka_dok prog_1_method_20_code q = true := by decide +kernel
theorem kd40 : ∀ q ∈ km_I40, ka_dok prog_1_method_21_code q = true := by decide +kernel
theorem kd41 : ∀ q ∈ km_I41, ka_dok prog_1_method_22_code q = true := by decide +kernel
theorem kd42 : ∀ q ∈ km_I42, ka_dok prog_1_method_23_code q = true := by decide +kernel
theorem kd43 : ∀ q ∈ km_I43, ka_dok prog_1_method_24_code q = true := by decide +kernel
theorem kd44 : ∀ q ∈ km_I44, ka_dok prog_1_method_25_code q = true := by decide +kernel
theorem kd45 : ∀ q ∈ km_I45, ka_dok prog_1_method_26_code q = true := by decide +kernel
theorem kd46 : ∀ q ∈ km_I46, ka_dok prog_1_method_27_code q = true := by decide +kernel
theorem kd47 : ∀ q ∈ km_I47, ka_dok prog_1_method_28_code q = true := by decide +kernel
theorem kd48 : ∀ q ∈ km_I48, ka_dok prog_1_method_29_code q = true := by decide +kernel
theorem kd49 : ∀ q ∈ km_I49, ka_dok prog_1_method_30_code q = true := by decide +kernel
theorem kd50 : ∀ q ∈ km_I50, ka_dok prog_1_method_31_code q = true := by decide +kernel
theorem kd51 : ∀ q ∈ km_I51, ka_dok prog_1_method_32_code q = true := by decide +kernel
theorem kd52 : ∀ q ∈ km_I52, ka_dok prog_1_method_33_code q = true := by decide +kernel
theorem kd53 : ∀ q ∈ km_I53, ka_dok prog_2_method_1_code q = true := by decide +kernel
theorem kd54 : ∀ q ∈ km_I54, ka_dok prog_2_method_2_code q = true := by decide +kernel
theorem kd55 : ∀ q ∈ km_I55, ka_dok prog_2_method_3_code q = true := by decide +kernel
theorem kd56 : ∀ q ∈ km_I56, ka_dok prog_2_method_4_code q = true := by decide +kernel
theorem kd57 : ∀ q ∈ km_I57, ka_dok prog_2_method_5_code q = true := by decide +kernel
theorem kd58 : ∀ q ∈ km_I58, ka_dok prog_2_method_6_code q = true := by decide +kernel
theorem kd59 : ∀ q ∈ km_I59, ka_dok prog_2_method_7_code q = true := by decide +kernel
theorem kd60 : ∀ q ∈ km_I60, ka_dok prog_2_method_8_code q = true := by decide +kernel
theorem kd61 : ∀ q ∈ km_I61, ka_dok prog_2_method_9_code q = true := by decide +kernel
theorem kd62 : ∀ q ∈ km_I62, ka_dok prog_2_method_10_code q = true := by decide +kernel
theorem kd63 : ∀ q ∈ km_I63, ka_dok prog_2_method_11_code q = true := by decide +kernel
theorem kd64 : ∀ q ∈ km_I64, ka_dok prog_2_method_12_code q = true := by decide +kernel
theorem kd65 : ∀ q ∈ km_I65, ka_dok prog_3_method_1_code q = true := by decide +kernel
theorem kd66 : ∀ q ∈ km_I66, ka_dok prog_3_method_2_code q = true := by decide +kernel
theorem kd67 : ∀ q ∈ km_I67, ka_dok prog_3_method_3_code q = true := by decide +kernel
theorem kd68 : ∀ q ∈ km_I68, ka_dok prog_3_method_4_code q = true := by decide +kernel
theorem kd69 : ∀ q ∈ km_I69, ka_dok prog_3_method_5_code q = true := by decide +kernel
theorem kd70 : ∀ q ∈ km_I70, ka_dok prog_3_method_6_code q = true := by decide +kernel
theorem kd71 : ∀ q ∈ km_I71, ka_dok prog_3_method_7_code q = true := by decide +kernel
theorem kd72 : ∀ q ∈ km_I72, ka_dok prog_3_method_8_code q = true := by decide +kernel
theorem kd73 : ∀ q ∈ km_I73, ka_dok prog_3_method_9_code q = true := by decide +kernel
theorem kd74_0 : ∀ q ∈ (km_I74.drop 0).take 60, ka_dok prog_3_method_10_code q = true := by decide +kernel
theorem kd74_1 : ∀ q ∈ (km_I74.drop 60).take 60, ka_dok prog_3_method_10_code q = true := by decide +kernel
theorem kd74 : ∀ q ∈ km_I74, ka_dok prog_3_method_10_code q = true := ka_chunks 60 [0, 60] (by decide +kernel) (List.forall_mem_cons.mpr ⟨kd74_0, List.forall_mem_cons.mpr ⟨kd74_1, fun _ h => absurd h List.not_mem_nil⟩⟩)
theorem kd75 : ∀ q ∈ km_I75, ka_dok prog_3_method_11_code q = true := by decide +kernel
theorem kd76 : ∀ q ∈ km_I76, ka_dok prog_3_method_12_code q = true := by decide +kernel
theorem kd77 : ∀ q ∈ km_I77, ka_dok prog_3_method_13_code q = true := by decide +kernel
theorem kd78 : ∀ q ∈ km_I78, ka_dok prog_3_method_14_code q = true := by decide +kernel
theorem kd79 : ∀ q ∈ km_I79, ka_dok prog_3_method_15_code q = true := by decide +kernel
theorem kd80 : ∀ q ∈ km_I80, ka_dok prog_4_method_1_code q = true := by decide +kernel
theorem kd81 : ∀ q ∈ km_I81, ka_dok prog_4_method_2_code q = true := by decide +kernel
theorem kd82 : ∀ q ∈ km_I82, ka_dok prog_4_method_3_code q = true := by decide +kernel
theorem kd83 : ∀ q ∈ km_I83, ka_dok prog_5_method_1_code q = true := by decide +kernel
theorem kd84 : ∀ q ∈ km_I84, ka_dok prog_5_method_2_code q = true := by decide +kernel
theorem kd85 : ∀ q ∈ km_I85, ka_dok prog_5_method_3_code q = true := by decide +kernel
theorem kd86 : ∀ q ∈ km_I86, ka_dok prog_5_method_4_code q = true := by decide +kernel
theorem kd87 : ∀ q ∈ km_I87, ka_dok prog_5_method_5_code q = true := by decide +kernel
theorem kd88 : ∀ q ∈ km_I88, ka_dok prog_5_method_6_code q = true := by decide +kernel
theorem kd89 : ∀ q ∈ km_I89, ka_dok prog_6_method_1_code q = true := by decide +kernel
theorem kd90 : ∀ q ∈ km_I90, ka_dok prog_6_method_2_code q = true := by decide +kernel
theorem kd91 : ∀ q ∈ km_I91, ka_dok prog_6_method_3_code q = true := by decide +kernel
theorem kd92_0 : ∀ q ∈ (km_I92.drop 0).take 60, ka_dok prog_6_method_4_code q = true := by decide +kernel
theorem kd92_1 : ∀ q ∈ (km_I92.drop 60).take 60, ka_dok prog_6_method_4_code q = true := by decide +kernel
theorem kd92 : ∀ q ∈ km_I92, ka_dok prog_6_method_4_code q = true := ka_chunks 60 [0, 60] (by decide +kernel) (List.forall_mem_cons.mpr ⟨kd92_0, List.forall_mem_cons.mpr ⟨kd92_1, fun _ h => absurd h List.not_mem_nil⟩⟩)
theorem kd93_0 : ∀ q ∈ (km_I93.drop 0).take 60, ka_dok prog_6_method_5_code q = true := by decide +kernel
theorem kd93_1 : ∀ q ∈ (km_I93.drop 60).take 60, ka_dok prog_6_method_5_code q = true := by decide +kernel
theorem kd93 : ∀ q ∈ km_I93, ka_dok prog_6_method_5_code q = true := ka_chunks 60 [0, 60] (by decide +kernel) (List.forall_mem_cons.mpr ⟨kd93_0, List.forall_mem_cons.mpr ⟨kd93_1, fun _ h => absurd h List.not_mem_nil⟩⟩)
theorem kd94 : ∀ q ∈ km_I94, ka_dok prog_6_method_6_code q = true := by decide +kernel
theorem kd95_0 : ∀ q ∈ (km_I95.drop 0).take 60, ka_dok prog_6_method_7_code q = true := by decide +kernel
theorem kd95_1 : ∀ q ∈ (km_I95.drop 60).take 60, ka_dok prog_6_method_7_code q = true := by decide +kernel
theorem kd95 : ∀ q ∈ km_I95, ka_dok prog_6_method_7_code q = true := ka_chunks 60 [0, 60] (by decide +kernel) (List.forall_mem_cons.mpr ⟨kd95_0, List.forall_mem_cons.mpr ⟨kd95_1, fun _ h => absurd h List.not_mem_nil⟩⟩)
theorem kd96 : ∀ q ∈ km_I96, ka_dok prog_6_method_8_code q = true := by decide +kernel
theorem kd97 : ∀ q ∈ km_I97, ka_dok prog_6_method_9_code q = true := by decide +kernel
theorem kd98 : ∀ q ∈ km_I98, ka_dok prog_6_method_10_code q = true := by decide +kernel
theorem kd99 : ∀ q ∈ km_I99, ka_dok prog_6_method_11_code q = true := by decide +kernel
theorem kd100 : ∀ q ∈ km_I100, ka_dok prog_7_method_1_code q = true := by decide +kernel
theorem kd101 : ∀ q ∈ km_I101, ka_dok prog_7_method_2_code q = true := by decide +kernel
theorem kd102 : ∀ q ∈ km_I102, ka_dok prog_7_method_3_code q = true := by decide +kernel
theorem kd103 : ∀ q ∈ km_I103, ka_dok prog_7_method_4_code q = true := by decide +kernel
theorem kd104 : ∀ q ∈ km_I104, ka_dok prog_7_method_5_code q = true := by decide +kernel
theorem kd105 : ∀ q ∈ km_I105, ka_dok prog_8_method_1_code q = true := by decide +kernel
theorem kd106 : ∀ q ∈ km_I106, ka_dok prog_8_method_2_code q = true := by decide +kernel
theorem kd107 : ∀ q ∈ km_I107, ka_dok prog_8_method_3_code q = true := by decide +kernel
theorem kd108 : ∀ q ∈ km_I108, ka_dok prog_9_method_1_code q = true := by decide +kernel
theorem kd109 : ∀ q ∈ km_I109, ka_dok prog_9_method_2_code q = true := by decide +kernel
theorem kd110 : ∀ q ∈ km_I110, ka_dok prog_9_method_3_code q = true := by decide +kernel
theorem kd111 : ∀ q ∈ km_I111, ka_dok prog_9_method_4_code q = true := by decide +kernel
theorem kd112 : ∀ q ∈ km_I112, ka_dok prog_9_method_5_code q = true := by decide +kernel
theorem kd113 : ∀ q ∈ km_I113, ka_dok prog_9_method_6_code q = true := by decide +kernel
theorem kd114 : ∀ q ∈ km_I114, ka_dok prog_9_method_7_code q = true := by decide +kernel
theorem kd115 : ∀ q ∈ km_I115, ka_dok prog_9_method_8_code q = true := by decide +kernel
theorem kd116 : ∀ q ∈ km_I116, ka_dok prog_9_method_9_code q = true := by decide +kernel
theorem kd117_0 : ∀ q ∈ (km_I117.drop 0).take 60, ka_dok prog_11_method_1_code q = true := by decide +kernel
theorem kd117_1 : ∀ q ∈ (km_I117.drop 60).take 60, ka_dok prog_11_method_1_code q = true := by decide +kernel
theorem kd117_2 : ∀ q ∈ (km_I117.drop 120).take 60, ka_dok prog_11_method_1_code q = true := by decide +kernel
theorem kd117 : ∀ q ∈ km_I117, ka_dok prog_11_method_1_code q = true := ka_chunks 60 [0, 60, 120] (by decide +kernel) (List.forall_mem_cons.mpr ⟨kd117_0, List.forall_mem_cons.mpr ⟨kd117_1, List.forall_mem_cons.mpr ⟨kd117_2, fun _ h => absurd h List.not_mem_nil⟩⟩⟩)
theorem kd118 : ∀ q ∈ km_I118, ka_dok prog_11_method_2_code q = true := by decide +kernel
theorem kd119 : ∀ q ∈ km_I119, ka_dok prog_11_method_3_code q = true := by decide +kernel
theorem kd120 : ∀ q ∈ km_I120, ka_dok prog_11_method_4_code q = true := by decide +kernel
theorem kd121 : ∀ q ∈ km_I121, ka_dok prog_11_method_5_code q = true := by decide +kernel
theorem kd122 : ∀ q ∈ km_I122, ka_dok prog_11_method_6_code q = true := by decide +kernel
theorem kd123 : ∀ q ∈ km_I123, ka_dok prog_11_method_7_code q = true := by decide +kernel
theorem kd124_0 : ∀ q ∈ (km_I124.drop 0).take 60, ka_dok prog_11_method_8_code q = true := by decide +kernel
theorem kd124_1 : ∀ q ∈ (km_I124.drop 60).take 60, ka_dok prog_11_method_8_code q = true := by decide +kernel
theorem kd124 : ∀ q ∈ km_I124, ka_dok prog_11_method_8_code q = true := ka_chunks 60 [0, 60] (by decide +kernel) (List.forall_mem_cons.mpr ⟨kd124_0, List.forall_mem_cons.mpr ⟨kd124_1, fun _ h => absurd h List.not_mem_nil⟩⟩)
theorem kd125_0 : ∀ q ∈ (km_I125.drop 0).take 60, ka_dok prog_11_method_9_code q = true := by decide +kernel
theorem kd125_1 : ∀ q ∈ (km_I125.drop 60).take 60, ka_dok prog_11_method_9_code q = true := by decide +kernel
theorem kd125 : ∀ q ∈ km_I125, ka_dok prog_11_method_9_code q = true := ka_chunks 60 [0, 60] (by decide +kernel) (List.forall_mem_cons.mpr ⟨kd125_0, List.forall_mem_cons.mpr ⟨kd125_1, fun _ h => absurd h List.not_mem_nil⟩⟩)
theorem kd126 : ∀ q ∈ km_I126, ka_dok prog_11_method_10_code q = true := by decide +kernel
theorem kd127 : ∀ q ∈ km_I127, ka_dok prog_11_method_11_code q = true := by decide +kernel
theorem kd128 : ∀ q ∈ km_I128, ka_dok prog_11_method_12_code q = true := by decide +kernel
theorem kd129 : ∀ q ∈ km_I129, ka_dok prog_11_method_13_code q = true := by decide +kernel
theorem kd130 : ∀ q ∈ km_I130, ka_dok prog_11_method_14_code q = true := by decide +kernel
theorem kd131 : ∀ q ∈ km_I131, ka_dok prog_11_method_15_code q = true := by decide +kernel
theorem kd132 : ∀ q ∈ km_I132, ka_dok prog_11_method_16_code q = true := by decide +kernel
theorem kd133_0 : ∀ q ∈ (km_I133.drop 0).take 60, ka_dok prog_11_method_17_code q = true := by decide +kernel
theorem kd133_1 : ∀ q ∈ (km_I133.drop 60).take 60, ka_dok prog_11_method_17_code q = true := by decide +kernel
theorem kd133_2 : ∀ q ∈ (km_I133.drop 120).take 60, ka_dok prog_11_method_17_code q = true := by decide +kernel
theorem kd133 : ∀ q ∈ km_I133, ka_dok prog_11_method_17_code q = true := ka_chunks 60 [0, 60, 120] (by decide +kernel) (List.forall_mem_cons.mpr ⟨kd133_0, List.forall_mem_cons.mpr ⟨kd133_1, List.forall_mem_cons.mpr ⟨kd133_2, fun _ h => absurd h List.not_mem_nil⟩⟩⟩)
theorem kd134 : ∀ q ∈ km_I134, ka_dok prog_11_method_18_code q = true := by decide +kernel
theorem kd135_0 : ∀ q ∈ (km_I135.drop 0).take 60, ka_dok prog_11_method_19_code q = true := by decide +kernel
theorem kd135_1 : ∀ q ∈ (km_I135.drop 60).take 60, ka_dok prog_11_method_19_code q = true := by decide +kernel
theorem kd135 : ∀ q ∈ km_I135, ka_dok prog_11_method_19_code q = true := ka_chunks 60 [0, 60] (by decide +kernel) (List.forall_mem_cons.mpr ⟨kd135_0, List.forall_mem_cons.mpr ⟨kd135_1, fun _ h => absurd h List.not_mem_nil⟩⟩)
theorem kd136 : ∀ q ∈ km_I136, ka_dok prog_11_method_20_code q = true := by decide +kernel
theorem kd137 : ∀ q ∈ km_I137, ka_dok prog_11_method_21_code q = true := by decide +kernel
theorem kd138 : ∀ q ∈ km_I138, ka_dok prog_11_method_22_code q = true := by decide +kernel
theorem kd139 : ∀ q ∈ km_I139, ka_dok prog_11_method_23_code q = true := by decide +kernel
theorem kd140_0 : ∀ q ∈ (km_I140.drop 0).take 60, ka_dok prog_11_method_24_code q = true := by decide +kernel
theorem kd140_1 : ∀ q ∈ (km_I140.drop 60).take 60, ka_dok prog_11_method_24_code q = true := by decide +kernel
theorem kd140 : ∀ q ∈ km_I140, ka_dok prog_11_method_24_code q = true := ka_chunks 60 [0, 60] (by decide +kernel) (List.forall_mem_cons.mpr ⟨kd140_0, List.forall_mem_cons.mpr ⟨kd140_1, fun _ h => absurd h List.not_mem_nil⟩⟩)
theorem kd141 : ∀ q ∈ km_I141, ka_dok prog_11_method_25_code q = true := by decide +kernel
theorem kd142 : ∀ q ∈ km_I142, ka_dok prog_11_method_26_code q = true := by decide +kernel
theorem kd143 : ∀ q ∈ km_I143, ka_dok prog_11_method_27_code q = true := by decide +kernel
theorem kd144 : ∀ q ∈ km_I144, ka_dok prog_11_method_28_code q = true := by decide +kernel
theorem kd145_0 : ∀ q ∈ (km_I145.drop 0).take 60, ka_dok prog_11_method_29_code q = true := by decide +kernel
theorem kd145_1 : ∀ q ∈ (km_I145.drop 60).take 60, ka_dok prog_11_method_29_code q = true := by decide +kernel
theorem kd145 : ∀ q ∈ km_I145, ka_dok prog_11_method_29_code q = true := ka_chunks 60 [0, 60] (by decide +kernel) (List.forall_mem_cons.mpr ⟨kd145_0, List.forall_mem_cons.mpr ⟨kd145_1, fun _ h => absurd h List.not_mem_nil⟩⟩)
theorem kd146_0 : ∀ q ∈ (km_I146.drop 0).take 60, ka_dok prog_11_method_30_code q = true := by decide +kernel
theorem kd146_1 : ∀ q ∈ (km_I146.drop 60).take 60, ka_dok prog_11_method_30_code q = true := by decide +kernel
theorem kd146 : ∀ q ∈ km_I146, ka_dok prog_11_method_30_code q = true := ka_chunks 60 [0, 60] (by decide +kernel) (List.forall_mem_cons.mpr ⟨kd146_0, List.forall_mem_cons.mpr ⟨kd146_1, fun _ h => absurd h List.not_mem_nil⟩⟩)
theorem kd147 : ∀ q ∈ km_I147, ka_dok prog_11_method_31_code q = true := by decide +kernel
theorem kd148_0 : ∀ q ∈ (km_I148.drop 0).take 60, ka_dok prog_11_method_32_code q = true := by decide +kernel
theorem kd148_1 : ∀ q ∈ (km_I148.drop 60).take 60, ka_dok prog_11_method_32_code q = true := by decide +kernel
theorem kd148 : ∀ q ∈ km_I148, ka_dok prog_11_method_32_code q = true := ka_chunks 60 [0, 60] (by decide +kernel) (List.forall_mem_cons.mpr ⟨kd148_0, List.forall_mem_cons.mpr ⟨kd148_1, fun _ h => absurd h List.not_mem_nil⟩⟩)
theorem kd149 : ∀ q ∈ km_I149, ka_dok prog_11_method_33_code q = true := by decide +kernel
theorem kd150 : ∀ q ∈ km_I150, ka_dok prog_11_method_34_code q = true := by decide +kernel
theorem kd151 : ∀ q ∈ km_I151, ka_dok prog_11_method_35_code q = true := by decide +kernel
theorem kd152_0 : ∀ q ∈ (km_I152.drop 0).take 60, ka_dok prog_11_method_36_code q = true := by decide +kernel
theorem kd152_1 : ∀ q ∈ (km_I152.drop 60).take 60, ka_dok prog_11_method_36_code q = true := by decide +kernel
theorem kd152 : ∀ q ∈ km_I152, ka_dok prog_11_method_36_code q = true := ka_chunks 60 [0, 60] (by decide +kernel) (List.forall_mem_cons.mpr ⟨kd152_0, List.forall_mem_cons.mpr ⟨kd152_1, fun _ h => absurd h List.not_mem_nil⟩⟩)
theorem kd153 : ∀ q ∈ km_I153, ka_dok prog_11_method_37_code q = true := by decide +kernel
theorem kd154_0 : ∀ q ∈ (km_I154.drop 0).take 60, ka_dok prog_11_method_38_code q = true := by decide +kernel
theorem kd154_1 : ∀ q ∈ (km_I154.drop 60).take 60, ka_dok prog_11_method_38_code q = true := by decide +kernel
theorem kd154 : ∀ q ∈ km_I154, ka_dok prog_11_method_38_code q = true := ka_chunks 60 [0, 60] (by decide +kernel) (List.forall_mem_cons.mpr ⟨kd154_0, List.forall_mem_cons.mpr ⟨kd154_1, fun _ h => absurd h List.not_mem_nil⟩⟩)
theorem kd155 : ∀ q ∈ km_I155, ka_dok prog_11_method_39_code q = true := by decide +kernel
theorem kd156_0 : ∀ q ∈ (km_I156.drop 0).take 60, ka_dok prog_11_method_40_code q = true := by decide +kernel
theorem kd156_1 : ∀ q ∈ (km_I156.drop 60).take 60, ka_dok prog_11_method_40_code q = true := by decide +kernel
theorem kd156_2 : ∀ q ∈ (km_I156.drop 120).take 60, ka_dok prog_11_method_40_code q = true := by decide +kernel
theorem kd156 : ∀ q ∈ km_I156, ka_dok prog_11_method_40_code q = true := ka_chunks 60 [0, 60, 120] (by decide +kernel) (List.forall_mem_cons.mpr ⟨kd156_0, List.forall_mem_cons.mpr ⟨kd156_1, List.forall_mem_cons.mpr ⟨kd156_2, fun _ h => absurd h List.not_mem_nil⟩⟩⟩)
theorem kd157 : ∀ q ∈ km_I157, ka_dok prog_11_method_41_code q = true := by decide +kernel
theorem kd158_0 : ∀ q ∈ (km_I158.drop 0).take 60, ka_dok prog_11_method_42_code q = true := by decide +kernel
theorem kd158_1 : ∀ q ∈ (km_I158.drop 60).take 60, ka_dok prog_11_method_42_code q = true := by decide +kernel
theorem kd158 : ∀ q ∈ km_I158, ka_dok prog_11_method_42_code q = true := ka_chunks 60 [0, 60] (by decide +kernel) (List.forall_mem_cons.mpr ⟨kd158_0, List.forall_mem_cons.mpr ⟨kd158_1, fun _ h => absurd h List.not_mem_nil⟩⟩)
theorem kd159 : ∀ q ∈ km_I159, ka_dok prog_11_method_43_code q = true := by decide +kernel
theorem kd160_0 : ∀ q ∈ (km_I160.drop 0).take 60, ka_dok prog_11_method_44_code q = true := by decide +kernel
theorem kd160_1 : ∀ q ∈ (km_I160.drop 60).take 60, ka_dok prog_11_method_44_code q = true := by decide +kernel
theorem kd160 : ∀ q ∈ km_I160, ka_dok prog_11_method_44_code q = true := ka_chunks 60 [0, 60] (by decide +kernel) (List.forall_mem_cons.mpr ⟨kd160_0, List.forall_mem_cons.mpr ⟨kd160_1, fun _ h => absurd h List.not_mem_nil⟩⟩)
theorem kd161 : ∀ q ∈ km_I161, ka_dok prog_11_method_45_code q = true := by decide +kernel
theorem kd162_0 : ∀ q ∈ (km_I162.drop 0).take 60, ka_dok prog_11_method_46_code q = true := by decide +kernel
theorem kd162_1 : ∀ q ∈ (km_I162.drop 60).take 60, ka_dok prog_11_method_46_code q = true := by decide +kernel
theorem kd162 : ∀ q ∈ km_I162, ka_dok prog_11_method_46_code q = true := ka_chunks 60 [0, 60] (by decide +kernel) (List.forall_mem_cons.mpr ⟨kd162_0, List.forall_mem_cons.mpr ⟨kd162_1, fun _ h => absurd h List.not_mem_nil⟩⟩)
theorem kd163_0 : ∀ q ∈ (km_I163.drop 0).take 60, ka_dok prog_11_method_47_code q = true := by decide +kernel
theorem kd163_1 : ∀ q ∈ (km_I163.drop 60).take 60, ka_dok prog_11_method_47_code q = true := by decide +kernel
theorem kd163_2 : ∀ q ∈ (km_I163.drop 120).take 60, ka_dok prog_11_method_47_code q = true := by decide +kernel
theorem kd163 : ∀ q ∈ km_I163, ka_dok prog_11_method_47_code q = true := ka_chunks 60 [0, 60, 120] (by decide +kernel) (List.forall_mem_cons.mpr ⟨kd163_0, List.forall_mem_cons.mpr ⟨kd163_1, List.forall_mem_cons.mpr ⟨kd163_2, fun _ h => absurd h List.not_mem_nil⟩⟩⟩)
theorem kd164 : ∀ q ∈ km_I164, ka_dok prog_11_method_48_code q = true := by decide +kernel
theorem kd165 : ∀ q ∈ km_I165, ka_dok prog_11_method_49_code q = true := by decide +kernel
theorem kd166_0 : ∀ q ∈ (km_I166.drop 0).take 60, ka_dok prog_11_method_50_code q = true := by decide +kernel
theorem kd166_1 : ∀ q ∈ (km_I166.drop 60).take 60, ka_dok prog_11_method_50_code q = true := by decide +kernel
theorem kd166_2 : ∀ q ∈ (km_I166.drop 120).take 60, ka_dok prog_11_method_50_code q = true := by decide +kernel
theorem kd166 : ∀ q ∈ km_I166, ka_dok prog_11_method_50_code q = true := ka_chunks 60 [0, 60, 120] (by decide +kernel) (List.forall_mem_cons.mpr ⟨kd166_0, List.forall_mem_cons.mpr ⟨kd166_1, List.forall_mem_cons.mpr ⟨kd166_2, fun _ h => absurd h List.not_mem_nil⟩⟩⟩)
theorem kd167 : ∀ q ∈ km_I167, ka_dok prog_11_method_51_code q = true := by decide +kernel
theorem kd168_0 : ∀ q ∈ (km_I168.drop 0).take 60, ka_dok prog_11_method_52_code q = true := by decide +kernel
theorem kd168_1 : ∀ q ∈ (km_I168.drop 60).take 60, ka_dok prog_11_method_52_code q = true := by decide +kernel
theorem kd168 : ∀ q ∈ km_I168, ka_dok prog_11_method_52_code q = true := ka_chunks 60 [0, 60] (by decide +kernel) (List.forall_mem_cons.mpr ⟨kd168_0, List.forall_mem_cons.mpr ⟨kd168_1, fun _ h => absurd h List.not_mem_nil⟩⟩)
theorem kd169 : ∀ q ∈ km_I169, ka_dok prog_11_method_53_code q = true := by decide +kernel
theorem kd170 : ∀ q ∈ km_I170, ka_dok prog_11_method_54_code q = true := by decide +kernel
theorem kd171 : ∀ q ∈ km_I171, ka_dok prog_11_method_55_code q = true := by decide +kernel
theorem kd172 : ∀ q ∈ km_I172, ka_dok prog_18_method_65_code q = true := by decide +kernel
theorem kd173 : ∀ q ∈ km_I173, ka_dok prog_18_method_69_code q = true := by decide +kernel
theorem kd174 : ∀ q ∈ km_I174, ka_dok prog_18_method_70_code q = true := by decide +kernel
theorem kd175 : ∀ q ∈ km_I175, ka_dok prog_24_method_1_code q = true := by decide +kernel
theorem kd176 : ∀ q ∈ km_I176, ka_dok prog_25_method_1_code q = true := by decide +kernel
theorem kd177 : ∀ q ∈ km_I177, ka_dok prog_26_method_2_code q = true := by decide +kernel
theorem kd178 : ∀ q ∈ km_I178, ka_dok prog_26_method_6_code q = true := by decide +kernel
theorem kd179 : ∀ q ∈ km_I179, ka_dok prog_26_method_7_code q = true := by decide +kernel
theorem kd180 : ∀ q ∈ km_I180, ka_dok prog_26_method_8_code q = true := by decide +kernel
theorem kd181 : ∀ q ∈ km_I181, ka_dok prog_26_method_18_code q = true := by decide +kernel
theorem kd182 : ∀ q ∈ km_I182, ka_dok prog_26_method_20_code q = true := by decide +kernel
theorem kd183 : ∀ q ∈ km_I183, ka_dok prog_26_method_24_code q = true := by decide +kernel
theorem kd184 : ∀ q ∈ km_I184, ka_dok prog_26_method_25_code q = true := by decide +kernel
theorem kd185 : ∀ q ∈ km_I185, ka_dok prog_26_method_29_code q = true := by decide +kernel
theorem kd186 : ∀ q ∈ km_I186, ka_dok prog_26_method_39_code q = true := by decide +kernel
theorem kd187 : ∀ q ∈ km_I187, ka_dok prog_27_method_103_code q = true := by decide +kernel
theorem kd188 : ∀ q ∈ km_I188, ka_dok prog_31_method_17_code q = true := by decide +kernel
theorem kd189 : ∀ q ∈ km_I189, ka_dok prog_34_method_27_code q = true := by decide +kernel
theorem kd190 : ∀ q ∈ km_I190, ka_dok prog_34_method_28_code q = true := by decide +kernel
theorem kd191 : ∀ q ∈ km_I191, ka_dok prog_35_method_11_code q = true := by decide +kernel
theorem kd192 : ∀ q ∈ km_I192, ka_dok prog_27_method_119_code q = true := by decide +kernel
theorem kd193 : ∀ q ∈ km_I193, ka_dok prog_27_method_120_code q = true := by decide +kernel
set_option maxRecDepth 100000 in
theorem kd_all : ∀ m ∈ km_B.zip km_I, ∀ q ∈ m.2, ka_dok m.1 q = true := by
  show ∀ m ∈ [(code, km_I0), (method_3_code, km_I1), (method_4_code, km_I2), (method_5_code, km_I3), (method_6_code, km_I4), (method_7_code, km_I5), (method_8_code, km_I6), (method_9_code, km_I7), (method_10_code, km_I8), (method_11_code, km_I9), (method_12_code, km_I10), (method_13_code, km_I11), (method_14_code, km_I12), (method_15_code, km_I13), (method_16_code, km_I14), (method_17_code, km_I15), (method_18_code, km_I16), (method_19_code, km_I17), (method_20_code, km_I18), (method_21_code, km_I19), (prog_1_method_1_code, km_I20), (prog_1_method_2_code, km_I21), (prog_1_method_3_code, km_I22), (prog_1_method_4_code, km_I23), (prog_1_method_5_code, km_I24), (prog_1_method_6_code, km_I25), (prog_1_method_7_code, km_I26), (prog_1_method_8_code, km_I27), (prog_1_method_9_code, km_I28), (prog_1_method_10_code, km_I29), (prog_1_method_11_code, km_I30), (prog_1_method_12_code, km_I31), (prog_1_method_13_code, km_I32), (prog_1_method_14_code, km_I33), (prog_1_method_15_code, km_I34), (prog_1_method_16_code, km_I35), (prog_1_method_17_code, km_I36), (prog_1_method_18_code, km_I37), (prog_1_method_19_code, km_I38), (prog_1_method_20_code, km_I39), (prog_1_method_21_code, km_I40), (prog_1_method_22_code, km_I41), (prog_1_method_23_code, km_I42), (prog_1_method_24_code, km_I43), (prog_1_method_25_code, km_I44), (prog_1_method_26_code, km_I45), (prog_1_method_27_code, km_I46), (prog_1_method_28_code, km_I47), (prog_1_method_29_code, km_I48), (prog_1_method_30_code, km_I49), (prog_1_method_31_code, km_I50), (prog_1_method_32_code, km_I51), (prog_1_method_33_code, km_I52), (prog_2_method_1_code, km_I53), (prog_2_method_2_code, km_I54), (prog_2_method_3_code, km_I55), (prog_2_method_4_code, km_I56), (prog_2_method_5_code, km_I57), (prog_2_method_6_code, km_I58), (prog_2_method_7_code, km_I59), (prog_2_method_8_code, km_I60), (prog_2_method_9_code, km_I61), (prog_2_method_10_code, km_I62), (prog_2_method_11_code, km_I63), (prog_2_method_12_code, km_I64), (prog_3_method_1_code, km_I65), (prog_3_method_2_code, km_I66), (prog_3_method_3_code, km_I67), (prog_3_method_4_code, km_I68), (prog_3_method_5_code, km_I69), (prog_3_method_6_code, km_I70), (prog_3_method_7_code, km_I71), (prog_3_method_8_code, km_I72), (prog_3_method_9_code, km_I73), (prog_3_method_10_code, km_I74), (prog_3_method_11_code, km_I75), (prog_3_method_12_code, km_I76), (prog_3_method_13_code, km_I77), (prog_3_method_14_code, km_I78), (prog_3_method_15_code, km_I79), (prog_4_method_1_code, km_I80), (prog_4_method_2_code, km_I81), (prog_4_method_3_code, km_I82), (prog_5_method_1_code, km_I83), (prog_5_method_2_code, km_I84), (prog_5_method_3_code, km_I85), (prog_5_method_4_code, km_I86), (prog_5_method_5_code, km_I87), (prog_5_method_6_code, km_I88), (prog_6_method_1_code, km_I89), (prog_6_method_2_code, km_I90), (prog_6_method_3_code, km_I91), (prog_6_method_4_code, km_I92), (prog_6_method_5_code, km_I93), (prog_6_method_6_code, km_I94), (prog_6_method_7_code, km_I95), (prog_6_method_8_code, km_I96), (prog_6_method_9_code, km_I97), (prog_6_method_10_code, km_I98), (prog_6_method_11_code, km_I99), (prog_7_method_1_code, km_I100), (prog_7_method_2_code, km_I101), (prog_7_method_3_code, km_I102), (prog_7_method_4_code, km_I103), (prog_7_method_5_code, km_I104), (prog_8_method_1_code, km_I105), (prog_8_method_2_code, km_I106), (prog_8_method_3_code, km_I107), (prog_9_method_1_code, km_I108), (prog_9_method_2_code, km_I109), (prog_9_method_3_code, km_I110), (prog_9_method_4_code, km_I111), (prog_9_method_5_code, km_I112), (prog_9_method_6_code, km_I113), (prog_9_method_7_code, km_I114), (prog_9_method_8_code, km_I115), (prog_9_method_9_code, km_I116), (prog_11_method_1_code, km_I117), (prog_11_method_2_code, km_I118), (prog_11_method_3_code, km_I119), (prog_11_method_4_code, km_I120), (prog_11_method_5_code, km_I121), (prog_11_method_6_code, km_I122), (prog_11_method_7_code, km_I123), (prog_11_method_8_code, km_I124), (prog_11_method_9_code, km_I125), (prog_11_method_10_code, km_I126), (prog_11_method_11_code, km_I127), (prog_11_method_12_code, km_I128), (prog_11_method_13_code, km_I129), (prog_11_method_14_code, km_I130), (prog_11_method_15_code, km_I131), (prog_11_method_16_code, km_I132), (prog_11_method_17_code, km_I133), (prog_11_method_18_code, km_I134), (prog_11_method_19_code, km_I135), (prog_11_method_20_code, km_I136), (prog_11_method_21_code, km_I137), (prog_11_method_22_code, km_I138), (prog_11_method_23_code, km_I139), (prog_11_method_24_code, km_I140), (prog_11_method_25_code, km_I141), (prog_11_method_26_code, km_I142), (prog_11_method_27_code, km_I143), (prog_11_method_28_code, km_I144), (prog_11_method_29_code, km_I145), (prog_11_method_30_code, km_I146), (prog_11_method_31_code, km_I147), (prog_11_method_32_code, km_I148), (prog_11_method_33_code, km_I149), (prog_11_method_34_code, km_I150), (prog_11_method_35_code, km_I151), (prog_11_method_36_code, km_I152), (prog_11_method_37_code, km_I153), (prog_11_method_38_code, km_I154), (prog_11_method_39_code, km_I155), (prog_11_method_40_code, km_I156), (prog_11_method_41_code, km_I157), (prog_11_method_42_code, km_I158), (prog_11_method_43_code, km_I159), (prog_11_method_44_code, km_I160), (prog_11_method_45_code, km_I161), (prog_11_method_46_code, km_I162), (prog_11_method_47_code, km_I163), (prog_11_method_48_code, km_I164), (prog_11_method_49_code, km_I165), (prog_11_method_50_code, km_I166), (prog_11_method_51_code, km_I167), (prog_11_method_52_code, km_I168), (prog_11_method_53_code, km_I169), (prog_11_method_54_code, km_I170), (prog_11_method_55_code, km_I171), (prog_18_method_65_code, km_I172), (prog_18_method_69_code, km_I173), (prog_18_method_70_code, km_I174), (prog_24_method_1_code, km_I175), (prog_25_method_1_code, km_I176), (prog_26_method_2_code, km_I177), (prog_26_method_6_code, km_I178), (prog_26_method_7_code, km_I179), (prog_26_method_8_code, km_I180), (prog_26_method_18_code, km_I181), (prog_26_method_20_code, km_I182), (prog_26_method_24_code, km_I183), (prog_26_method_25_code, km_I184), (prog_26_method_29_code, km_I185), (prog_26_method_39_code, km_I186), (prog_27_method_103_code, km_I187), (prog_31_method_17_code, km_I188), (prog_34_method_27_code, km_I189), (prog_34_method_28_code, km_I190), (prog_35_method_11_code, km_I191), (prog_27_method_119_code, km_I192), (prog_27_method_120_code, km_I193)], ∀ q ∈ m.2, ka_dok m.1 q = true
  exact List.forall_mem_cons.mpr ⟨kd0, List.forall_mem_cons.mpr ⟨kd1, List.forall_mem_cons.mpr ⟨kd2, List.forall_mem_cons.mpr ⟨kd3, List.forall_mem_cons.mpr ⟨kd4, List.forall_mem_cons.mpr ⟨kd5, List.forall_mem_cons.mpr ⟨kd6, List.forall_mem_cons.mpr ⟨kd7, List.forall_mem_cons.mpr ⟨kd8, List.forall_mem_cons.mpr ⟨kd9, List.forall_mem_cons.mpr ⟨kd10, List.forall_mem_cons.mpr ⟨kd11, List.forall_mem_cons.mpr ⟨kd12, List.forall_mem_cons.mpr ⟨kd13, List.forall_mem_cons.mpr ⟨kd14, List.forall_mem_cons.mpr ⟨kd15, List.forall_mem_cons.mpr ⟨kd16, List.forall_mem_cons.mpr ⟨kd17, List.forall_mem_cons.mpr ⟨kd18, List.forall_mem_cons.mpr ⟨kd19, List.forall_mem_cons.mpr ⟨kd20, List.forall_mem_cons.mpr ⟨kd21, List.forall_mem_cons.mpr ⟨kd22, List.forall_mem_cons.mpr ⟨kd23, List.forall_mem_cons.mpr ⟨kd24, List.forall_mem_cons.mpr ⟨kd25, List.forall_mem_cons.mpr ⟨kd26, List.forall_mem_cons.mpr ⟨kd27, List.forall_mem_cons.mpr ⟨kd28, List.forall_mem_cons.mpr ⟨kd29, List.forall_mem_cons.mpr ⟨kd30, List.forall_mem_cons.mpr ⟨kd31, List.forall_mem_cons.mpr ⟨kd32, List.forall_mem_cons.mpr ⟨kd33, List.forall_mem_cons.mpr ⟨kd34, List.forall_mem_cons.mpr ⟨kd35, List.forall_mem_cons.mpr ⟨kd36, List.forall_mem_cons.mpr ⟨kd37, List.forall_mem_cons.mpr ⟨kd38, List.forall_mem_cons.mpr ⟨kd39, List.forall_mem_cons.mpr ⟨kd40, List.forall_mem_cons.mpr ⟨kd41, List.forall_mem_cons.mpr ⟨kd42, List.forall_mem_cons.mpr ⟨kd43, List.forall_mem_cons.mpr ⟨kd44, List.forall_mem_cons.mpr ⟨kd45, List.forall_mem_cons.mpr ⟨kd46, List.forall_mem_cons.mpr ⟨kd47, List.forall_mem_cons.mpr ⟨kd48, List.forall_mem_cons.mpr ⟨kd49, List.forall_mem_cons.mpr ⟨kd50, List.forall_mem_cons.mpr ⟨kd51, List.forall_mem_cons.mpr ⟨kd52, List.forall_mem_cons.mpr ⟨kd53, List.forall_mem_cons.mpr ⟨kd54, List.forall_mem_cons.mpr ⟨kd55, List.forall_mem_cons.mpr ⟨kd56, List.forall_mem_cons.mpr ⟨kd57, List.forall_mem_cons.mpr ⟨kd58, List.forall_mem_cons.mpr ⟨kd59, List.forall_mem_cons.mpr ⟨kd60, List.forall_mem_cons.mpr ⟨kd61, List.forall_mem_cons.mpr ⟨kd62, List.forall_mem_cons.mpr ⟨kd63, List.forall_mem_cons.mpr ⟨kd64, List.forall_mem_cons.mpr ⟨kd65, List.forall_mem_cons.mpr ⟨kd66, List.forall_mem_cons.mpr ⟨kd67, List.forall_mem_cons.mpr ⟨kd68, List.forall_mem_cons.mpr ⟨kd69, List.forall_mem_cons.mpr ⟨kd70, List.forall_mem_cons.mpr ⟨kd71, List.forall_mem_cons.mpr ⟨kd72, List.forall_mem_cons.mpr ⟨kd73, List.forall_mem_cons.mpr ⟨kd74, List.forall_mem_cons.mpr ⟨kd75, List.forall_mem_cons.mpr ⟨kd76, List.forall_mem_cons.mpr ⟨kd77, List.forall_mem_cons.mpr ⟨kd78, List.forall_mem_cons.mpr ⟨kd79, List.forall_mem_cons.mpr ⟨kd80, List.forall_mem_cons.mpr ⟨kd81, List.forall_mem_cons.mpr ⟨kd82, List.forall_mem_cons.mpr ⟨kd83, List.forall_mem_cons.mpr ⟨kd84, List.forall_mem_cons.mpr ⟨kd85, List.forall_mem_cons.mpr ⟨kd86, List.forall_mem_cons.mpr ⟨kd87, List.forall_mem_cons.mpr ⟨kd88, List.forall_mem_cons.mpr ⟨kd89, List.forall_mem_cons.mpr ⟨kd90, List.forall_mem_cons.mpr ⟨kd91, List.forall_mem_cons.mpr ⟨kd92, List.forall_mem_cons.mpr ⟨kd93, List.forall_mem_cons.mpr ⟨kd94, List.forall_mem_cons.mpr ⟨kd95, List.forall_mem_cons.mpr ⟨kd96, List.forall_mem_cons.mpr ⟨kd97, List.forall_mem_cons.mpr ⟨kd98, List.forall_mem_cons.mpr ⟨kd99, List.forall_mem_cons.mpr ⟨kd100, List.forall_mem_cons.mpr ⟨kd101, List.forall_mem_cons.mpr ⟨kd102, List.forall_mem_cons.mpr ⟨kd103, List.forall_mem_cons.mpr ⟨kd104, List.forall_mem_cons.mpr ⟨kd105, List.forall_mem_cons.mpr ⟨kd106, List.forall_mem_cons.mpr ⟨kd107, List.forall_mem_cons.mpr ⟨kd108, List.forall_mem_cons.mpr ⟨kd109, List.forall_mem_cons.mpr ⟨kd110, List.forall_mem_cons.mpr ⟨kd111, List.forall_mem_cons.mpr ⟨kd112, List.forall_mem_cons.mpr ⟨kd113, List.forall_mem_cons.mpr ⟨kd114, List.forall_mem_cons.mpr ⟨kd115, List.forall_mem_cons.mpr ⟨kd116, List.forall_mem_cons.mpr ⟨kd117, List.forall_mem_cons.mpr ⟨kd118, List.forall_mem_cons.mpr ⟨kd119, List.forall_mem_cons.mpr ⟨kd120, List.forall_mem_cons.mpr ⟨kd121, List.forall_mem_cons.mpr ⟨kd122, List.forall_mem_cons.mpr ⟨kd123, List.forall_mem_cons.mpr ⟨kd124, List.forall_mem_cons.mpr ⟨kd125, List.forall_mem_cons.mpr ⟨kd126, List.forall_mem_cons.mpr ⟨kd127, List.forall_mem_cons.mpr ⟨kd128, List.forall_mem_cons.mpr ⟨kd129, List.forall_mem_cons.mpr ⟨kd130, List.forall_mem_cons.mpr ⟨kd131, List.forall_mem_cons.mpr ⟨kd132, List.forall_mem_cons.mpr ⟨kd133, List.forall_mem_cons.mpr ⟨kd134, List.forall_mem_cons.mpr ⟨kd135, List.forall_mem_cons.mpr ⟨kd136, List.forall_mem_cons.mpr ⟨kd137, List.forall_mem_cons.mpr ⟨kd138, List.forall_mem_cons.mpr ⟨kd139, List.forall_mem_cons.mpr ⟨kd140, List.forall_mem_cons.mpr ⟨kd141, List.forall_mem_cons.mpr ⟨kd142, List.forall_mem_cons.mpr ⟨kd143, List.forall_mem_cons.mpr ⟨kd144, List.forall_mem_cons.mpr ⟨kd145, List.forall_mem_cons.mpr ⟨kd146, List.forall_mem_cons.mpr ⟨kd147, List.forall_mem_cons.mpr ⟨kd148, List.forall_mem_cons.mpr ⟨kd149, List.forall_mem_cons.mpr ⟨kd150, List.forall_mem_cons.mpr ⟨kd151, List.forall_mem_cons.mpr ⟨kd152, List.forall_mem_cons.mpr ⟨kd153, List.forall_mem_cons.mpr ⟨kd154, List.forall_mem_cons.mpr ⟨kd155, List.forall_mem_cons.mpr ⟨kd156, List.forall_mem_cons.mpr ⟨kd157, List.forall_mem_cons.mpr ⟨kd158, List.forall_mem_cons.mpr ⟨kd159, List.forall_mem_cons.mpr ⟨kd160, List.forall_mem_cons.mpr ⟨kd161, List.forall_mem_cons.mpr ⟨kd162, List.forall_mem_cons.mpr ⟨kd163, List.forall_mem_cons.mpr ⟨kd164, List.forall_mem_cons.mpr ⟨kd165, List.forall_mem_cons.mpr ⟨kd166, List.forall_mem_cons.mpr ⟨kd167, List.forall_mem_cons.mpr ⟨kd168, List.forall_mem_cons.mpr ⟨kd169, List.forall_mem_cons.mpr ⟨kd170, List.forall_mem_cons.mpr ⟨kd171, List.forall_mem_cons.mpr ⟨kd172, List.forall_mem_cons.mpr ⟨kd173, List.forall_mem_cons.mpr ⟨kd174, List.forall_mem_cons.mpr ⟨kd175, List.forall_mem_cons.mpr ⟨kd176, List.forall_mem_cons.mpr ⟨kd177, List.forall_mem_cons.mpr ⟨kd178, List.forall_mem_cons.mpr ⟨kd179, List.forall_mem_cons.mpr ⟨kd180, List.forall_mem_cons.mpr ⟨kd181, List.forall_mem_cons.mpr ⟨kd182, List.forall_mem_cons.mpr ⟨kd183, List.forall_mem_cons.mpr ⟨kd184, List.forall_mem_cons.mpr ⟨kd185, List.forall_mem_cons.mpr ⟨kd186, List.forall_mem_cons.mpr ⟨kd187, List.forall_mem_cons.mpr ⟨kd188, List.forall_mem_cons.mpr ⟨kd189, List.forall_mem_cons.mpr ⟨kd190, List.forall_mem_cons.mpr ⟨kd191, List.forall_mem_cons.mpr ⟨kd192, List.forall_mem_cons.mpr ⟨kd193, fun _ h => absurd h List.not_mem_nil⟩⟩⟩⟩⟩⟩⟩⟩⟩⟩⟩⟩⟩⟩⟩⟩⟩⟩⟩⟩⟩⟩⟩⟩⟩⟩⟩⟩⟩⟩⟩⟩⟩⟩⟩⟩⟩⟩⟩⟩⟩⟩⟩⟩⟩⟩⟩⟩⟩⟩⟩⟩⟩⟩⟩⟩⟩⟩⟩⟩⟩⟩⟩⟩⟩⟩⟩⟩⟩⟩⟩⟩⟩⟩⟩⟩⟩⟩⟩⟩⟩⟩⟩⟩⟩⟩⟩⟩⟩⟩⟩⟩⟩⟩⟩⟩⟩⟩⟩⟩⟩⟩⟩⟩⟩⟩⟩⟩⟩⟩⟩⟩⟩⟩⟩⟩⟩⟩⟩⟩⟩⟩⟩⟩⟩⟩⟩⟩⟩⟩⟩⟩⟩⟩⟩⟩⟩⟩⟩⟩⟩⟩⟩⟩⟩⟩⟩⟩⟩⟩⟩⟩⟩⟩⟩⟩⟩⟩⟩⟩⟩⟩⟩⟩⟩⟩⟩⟩⟩⟩⟩⟩⟩⟩⟩⟩⟩⟩⟩⟩⟩⟩⟩⟩⟩⟩⟩⟩⟩⟩⟩⟩⟩⟩
