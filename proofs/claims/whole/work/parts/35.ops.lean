theorem o211_0 : zop 211 0 = some (.aload_n 3, 1) := by decide +kernel
theorem o211_1 : zop 211 1 = some (.iconst 0, 1) := by decide +kernel
theorem o211_2 : zop 211 2 = some (.aload_n 0, 1) := by decide +kernel
theorem o211_3 : zop 211 3 = some (.iload_n 1, 1) := by decide +kernel
theorem o211_4 : zop 211 4 = some (.iload_n 2, 1) := by decide +kernel
theorem o211_5 : zop 211 5 = some (.invokevirtual 108, 3) := by decide +kernel
theorem o211_8 : zop 211 8 = some (.i2l, 1) := by decide +kernel
theorem o211_9 : zop 211 9 = some (.lastore, 1) := by decide +kernel
theorem o211_10 : zop 211 10 = some (.goto 7, 3) := by decide +kernel
theorem o211_13 : zop 211 13 = some (.astore 4, 2) := by decide +kernel
theorem o211_15 : zop 211 15 = some (.iconst 1, 1) := by decide +kernel
theorem o211_16 : zop 211 16 = some (.ireturn, 1) := by decide +kernel
theorem o211_17 : zop 211 17 = some (.iconst 0, 1) := by decide +kernel
theorem o211_18 : zop 211 18 = some (.ireturn, 1) := by decide +kernel
theorem o212_0 : zop 212 0 = some (.aload_n 3, 1) := by decide +kernel
theorem o212_1 : zop 212 1 = some (.iconst 0, 1) := by decide +kernel
theorem o212_2 : zop 212 2 = some (.aload_n 0, 1) := by decide +kernel
theorem o212_3 : zop 212 3 = some (.iload_n 1, 1) := by decide +kernel
theorem o212_4 : zop 212 4 = some (.iload_n 2, 1) := by decide +kernel
theorem o212_5 : zop 212 5 = some (.invokevirtual 110, 3) := by decide +kernel
theorem o212_8 : zop 212 8 = some (.i2l, 1) := by decide +kernel
theorem o212_9 : zop 212 9 = some (.lastore, 1) := by decide +kernel
theorem o212_10 : zop 212 10 = some (.goto 7, 3) := by decide +kernel
theorem o212_13 : zop 212 13 = some (.astore 4, 2) := by decide +kernel
theorem o212_15 : zop 212 15 = some (.iconst 1, 1) := by decide +kernel
theorem o212_16 : zop 212 16 = some (.ireturn, 1) := by decide +kernel
theorem o212_17 : zop 212 17 = some (.iconst 0, 1) := by decide +kernel
theorem o212_18 : zop 212 18 = some (.ireturn, 1) := by decide +kernel
theorem o213_0 : zop 213 0 = some (.aload_n 3, 1) := by decide +kernel
theorem o213_1 : zop 213 1 = some (.iconst 0, 1) := by decide +kernel
theorem o213_2 : zop 213 2 = some (.aload_n 0, 1) := by decide +kernel
theorem o213_3 : zop 213 3 = some (.iload_n 1, 1) := by decide +kernel
theorem o213_4 : zop 213 4 = some (.iload_n 2, 1) := by decide +kernel
theorem o213_5 : zop 213 5 = some (.invokevirtual 112, 3) := by decide +kernel
theorem o213_8 : zop 213 8 = some (.i2l, 1) := by decide +kernel
theorem o213_9 : zop 213 9 = some (.lastore, 1) := by decide +kernel
theorem o213_10 : zop 213 10 = some (.goto 7, 3) := by decide +kernel
theorem o213_13 : zop 213 13 = some (.astore 4, 2) := by decide +kernel
theorem o213_15 : zop 213 15 = some (.iconst 1, 1) := by decide +kernel
theorem o213_16 : zop 213 16 = some (.ireturn, 1) := by decide +kernel
theorem o213_17 : zop 213 17 = some (.iconst 0, 1) := by decide +kernel
theorem o213_18 : zop 213 18 = some (.ireturn, 1) := by decide +kernel
theorem o214_0 : zop 214 0 = some (.aload_n 3, 1) := by decide +kernel
theorem o214_1 : zop 214 1 = some (.iconst 0, 1) := by decide +kernel
theorem o214_2 : zop 214 2 = some (.aload_n 0, 1) := by decide +kernel
theorem o214_3 : zop 214 3 = some (.iload_n 1, 1) := by decide +kernel
theorem o214_4 : zop 214 4 = some (.iload_n 2, 1) := by decide +kernel
theorem o214_5 : zop 214 5 = some (.invokevirtual 113, 3) := by decide +kernel
theorem o214_8 : zop 214 8 = some (.i2l, 1) := by decide +kernel
theorem o214_9 : zop 214 9 = some (.lastore, 1) := by decide +kernel
theorem o214_10 : zop 214 10 = some (.goto 7, 3) := by decide +kernel
theorem o214_13 : zop 214 13 = some (.astore 4, 2) := by decide +kernel
theorem o214_15 : zop 214 15 = some (.iconst 1, 1) := by decide +kernel
theorem o214_16 : zop 214 16 = some (.ireturn, 1) := by decide +kernel
theorem o214_17 : zop 214 17 = some (.iconst 0, 1) := by decide +kernel
theorem o214_18 : zop 214 18 = some (.ireturn, 1) := by decide +kernel
theorem o215_0 : zop 215 0 = some (.aload 4, 2) := by decide +kernel
theorem o215_2 : zop 215 2 = some (.iconst 0, 1) := by decide +kernel
theorem o215_3 : zop 215 3 = some (.aload_n 0, 1) := by decide +kernel
theorem o215_4 : zop 215 4 = some (.iload_n 1, 1) := by decide +kernel
theorem o215_5 : zop 215 5 = some (.iload_n 2, 1) := by decide +kernel
theorem o215_6 : zop 215 6 = some (.iload_n 3, 1) := by decide +kernel
theorem o215_7 : zop 215 7 = some (.invokevirtual 115, 3) := by decide +kernel
theorem o215_10 : zop 215 10 = some (.i2l, 1) := by decide +kernel
theorem o215_11 : zop 215 11 = some (.lastore, 1) := by decide +kernel
theorem o215_12 : zop 215 12 = some (.goto 7, 3) := by decide +kernel
theorem o215_15 : zop 215 15 = some (.astore 5, 2) := by decide +kernel
theorem o215_17 : zop 215 17 = some (.iconst 1, 1) := by decide +kernel
theorem o215_18 : zop 215 18 = some (.ireturn, 1) := by decide +kernel
theorem o215_19 : zop 215 19 = some (.iconst 0, 1) := by decide +kernel
theorem o215_20 : zop 215 20 = some (.ireturn, 1) := by decide +kernel
theorem o216_0 : zop 216 0 = some (.aload_n 3, 1) := by decide +kernel
theorem o216_1 : zop 216 1 = some (.iconst 0, 1) := by decide +kernel
theorem o216_2 : zop 216 2 = some (.aload_n 0, 1) := by decide +kernel
theorem o216_3 : zop 216 3 = some (.iload_n 1, 1) := by decide +kernel
theorem o216_4 : zop 216 4 = some (.iload_n 2, 1) := by decide +kernel
theorem o216_5 : zop 216 5 = some (.invokevirtual 116, 3) := by decide +kernel
theorem o216_8 : zop 216 8 = some (.i2l, 1) := by decide +kernel
theorem o216_9 : zop 216 9 = some (.lastore, 1) := by decide +kernel
theorem o216_10 : zop 216 10 = some (.goto 7, 3) := by decide +kernel
theorem o216_13 : zop 216 13 = some (.astore 4, 2) := by decide +kernel
theorem o216_15 : zop 216 15 = some (.iconst 1, 1) := by decide +kernel
theorem o216_16 : zop 216 16 = some (.ireturn, 1) := by decide +kernel
theorem o216_17 : zop 216 17 = some (.iconst 0, 1) := by decide +kernel
theorem o216_18 : zop 216 18 = some (.ireturn, 1) := by decide +kernel
theorem o217_0 : zop 217 0 = some (.aload_n 3, 1) := by decide +kernel
theorem o217_1 : zop 217 1 = some (.iconst 0, 1) := by decide +kernel
theorem o217_2 : zop 217 2 = some (.aload_n 0, 1) := by decide +kernel
theorem o217_3 : zop 217 3 = some (.iload_n 1, 1) := by decide +kernel
theorem o217_4 : zop 217 4 = some (.iload_n 2, 1) := by decide +kernel
theorem o217_5 : zop 217 5 = some (.invokevirtual 118, 3) := by decide +kernel
theorem o217_8 : zop 217 8 = some (.i2l, 1) := by decide +kernel
theorem o217_9 : zop 217 9 = some (.lastore, 1) := by decide +kernel
theorem o217_10 : zop 217 10 = some (.goto 7, 3) := by decide +kernel
theorem o217_13 : zop 217 13 = some (.astore 4, 2) := by decide +kernel
theorem o217_15 : zop 217 15 = some (.iconst 1, 1) := by decide +kernel
theorem o217_16 : zop 217 16 = some (.ireturn, 1) := by decide +kernel
theorem o217_17 : zop 217 17 = some (.iconst 0, 1) := by decide +kernel
theorem o217_18 : zop 217 18 = some (.ireturn, 1) := by decide +kernel
theorem o218_0 : zop 218 0 = some (.aload_n 3, 1) := by decide +kernel
theorem o218_1 : zop 218 1 = some (.iconst 0, 1) := by decide +kernel
theorem o218_2 : zop 218 2 = some (.aload_n 0, 1) := by decide +kernel
theorem o218_3 : zop 218 3 = some (.iload_n 1, 1) := by decide +kernel
theorem o218_4 : zop 218 4 = some (.iload_n 2, 1) := by decide +kernel
theorem o218_5 : zop 218 5 = some (.invokevirtual 119, 3) := by decide +kernel
theorem o218_8 : zop 218 8 = some (.i2l, 1) := by decide +kernel
theorem o218_9 : zop 218 9 = some (.lastore, 1) := by decide +kernel
theorem o218_10 : zop 218 10 = some (.goto 7, 3) := by decide +kernel
theorem o218_13 : zop 218 13 = some (.astore 4, 2) := by decide +kernel
theorem o218_15 : zop 218 15 = some (.iconst 1, 1) := by decide +kernel
theorem o218_16 : zop 218 16 = some (.ireturn, 1) := by decide +kernel
theorem o218_17 : zop 218 17 = some (.iconst 0, 1) := by decide +kernel
theorem o218_18 : zop 218 18 = some (.ireturn, 1) := by decide +kernel
theorem o219_0 : zop 219 0 = some (.aload_n 3, 1) := by decide +kernel
theorem o219_1 : zop 219 1 = some (.iconst 0, 1) := by decide +kernel
theorem o219_2 : zop 219 2 = some (.aload_n 0, 1) := by decide +kernel
theorem o219_3 : zop 219 3 = some (.iload_n 1, 1) := by decide +kernel
theorem o219_4 : zop 219 4 = some (.iload_n 2, 1) := by decide +kernel
theorem o219_5 : zop 219 5 = some (.invokevirtual 120, 3) := by decide +kernel
theorem o219_8 : zop 219 8 = some (.i2l, 1) := by decide +kernel
theorem o219_9 : zop 219 9 = some (.lastore, 1) := by decide +kernel
theorem o219_10 : zop 219 10 = some (.goto 7, 3) := by decide +kernel
theorem o219_13 : zop 219 13 = some (.astore 4, 2) := by decide +kernel
theorem o219_15 : zop 219 15 = some (.iconst 1, 1) := by decide +kernel
theorem o219_16 : zop 219 16 = some (.ireturn, 1) := by decide +kernel
theorem o219_17 : zop 219 17 = some (.iconst 0, 1) := by decide +kernel
theorem o219_18 : zop 219 18 = some (.ireturn, 1) := by decide +kernel
theorem o220_0 : zop 220 0 = some (.aload_n 3, 1) := by decide +kernel
theorem o220_1 : zop 220 1 = some (.iconst 0, 1) := by decide +kernel
theorem o220_2 : zop 220 2 = some (.aload_n 0, 1) := by decide +kernel
theorem o220_3 : zop 220 3 = some (.iload_n 1, 1) := by decide +kernel
theorem o220_4 : zop 220 4 = some (.iload_n 2, 1) := by decide +kernel
theorem o220_5 : zop 220 5 = some (.invokevirtual 121, 3) := by decide +kernel
theorem o220_8 : zop 220 8 = some (.i2l, 1) := by decide +kernel
theorem o220_9 : zop 220 9 = some (.lastore, 1) := by decide +kernel
theorem o220_10 : zop 220 10 = some (.goto 7, 3) := by decide +kernel
theorem o220_13 : zop 220 13 = some (.astore 4, 2) := by decide +kernel
theorem o220_15 : zop 220 15 = some (.iconst 1, 1) := by decide +kernel
theorem o220_16 : zop 220 16 = some (.ireturn, 1) := by decide +kernel
theorem o220_17 : zop 220 17 = some (.iconst 0, 1) := by decide +kernel
theorem o220_18 : zop 220 18 = some (.ireturn, 1) := by decide +kernel
theorem o221_0 : zop 221 0 = some (.aload_n 2, 1) := by decide +kernel
theorem o221_1 : zop 221 1 = some (.iconst 0, 1) := by decide +kernel
theorem o221_2 : zop 221 2 = some (.aload_n 0, 1) := by decide +kernel
theorem o221_3 : zop 221 3 = some (.iload_n 1, 1) := by decide +kernel
theorem o221_4 : zop 221 4 = some (.invokevirtual 122, 3) := by decide +kernel
theorem o221_7 : zop 221 7 = some (.i2l, 1) := by decide +kernel
theorem o221_8 : zop 221 8 = some (.lastore, 1) := by decide +kernel
theorem o221_9 : zop 221 9 = some (.goto 6, 3) := by decide +kernel
theorem o221_12 : zop 221 12 = some (.astore_n 3, 1) := by decide +kernel
theorem o221_13 : zop 221 13 = some (.iconst 1, 1) := by decide +kernel
theorem o221_14 : zop 221 14 = some (.ireturn, 1) := by decide +kernel
theorem o221_15 : zop 221 15 = some (.iconst 0, 1) := by decide +kernel
theorem o221_16 : zop 221 16 = some (.ireturn, 1) := by decide +kernel
theorem o222_0 : zop 222 0 = some (.aload 4, 2) := by decide +kernel
theorem o222_2 : zop 222 2 = some (.iconst 0, 1) := by decide +kernel
theorem o222_3 : zop 222 3 = some (.aload_n 0, 1) := by decide +kernel
theorem o222_4 : zop 222 4 = some (.iload_n 1, 1) := by decide +kernel
theorem o222_5 : zop 222 5 = some (.iload_n 2, 1) := by decide +kernel
theorem o222_6 : zop 222 6 = some (.iload_n 3, 1) := by decide +kernel
theorem o222_7 : zop 222 7 = some (.invokevirtual 123, 3) := by decide +kernel
theorem o222_10 : zop 222 10 = some (.i2l, 1) := by decide +kernel
theorem o222_11 : zop 222 11 = some (.lastore, 1) := by decide +kernel
theorem o222_12 : zop 222 12 = some (.goto 7, 3) := by decide +kernel
theorem o222_15 : zop 222 15 = some (.astore 5, 2) := by decide +kernel
theorem o222_17 : zop 222 17 = some (.iconst 1, 1) := by decide +kernel
theorem o222_18 : zop 222 18 = some (.ireturn, 1) := by decide +kernel
theorem o222_19 : zop 222 19 = some (.iconst 0, 1) := by decide +kernel
theorem o222_20 : zop 222 20 = some (.ireturn, 1) := by decide +kernel
theorem o223_0 : zop 223 0 = some (.aload_n 2, 1) := by decide +kernel
theorem o223_1 : zop 223 1 = some (.iconst 0, 1) := by decide +kernel
theorem o223_2 : zop 223 2 = some (.aload_n 0, 1) := by decide +kernel
theorem o223_3 : zop 223 3 = some (.iload_n 1, 1) := by decide +kernel
theorem o223_4 : zop 223 4 = some (.invokevirtual 124, 3) := by decide +kernel
theorem o223_7 : zop 223 7 = some (.i2l, 1) := by decide +kernel
theorem o223_8 : zop 223 8 = some (.lastore, 1) := by decide +kernel
theorem o223_9 : zop 223 9 = some (.goto 6, 3) := by decide +kernel
theorem o223_12 : zop 223 12 = some (.astore_n 3, 1) := by decide +kernel
theorem o223_13 : zop 223 13 = some (.iconst 1, 1) := by decide +kernel
theorem o223_14 : zop 223 14 = some (.ireturn, 1) := by decide +kernel
theorem o223_15 : zop 223 15 = some (.iconst 0, 1) := by decide +kernel
theorem o223_16 : zop 223 16 = some (.ireturn, 1) := by decide +kernel
theorem o224_0 : zop 224 0 = some (.aload 6, 2) := by decide +kernel
theorem o224_2 : zop 224 2 = some (.iconst 0, 1) := by decide +kernel
theorem o224_3 : zop 224 3 = some (.aload_n 0, 1) := by decide +kernel
theorem o224_4 : zop 224 4 = some (.iload_n 1, 1) := by decide +kernel
theorem o224_5 : zop 224 5 = some (.iload_n 2, 1) := by decide +kernel
theorem o224_6 : zop 224 6 = some (.iload_n 3, 1) := by decide +kernel
theorem o224_7 : zop 224 7 = some (.iload 4, 2) := by decide +kernel
theorem o224_9 : zop 224 9 = some (.iload 5, 2) := by decide +kernel
theorem o224_11 : zop 224 11 = some (.invokevirtual 125, 3) := by decide +kernel
theorem o224_14 : zop 224 14 = some (.i2l, 1) := by decide +kernel
theorem o224_15 : zop 224 15 = some (.lastore, 1) := by decide +kernel
theorem o224_16 : zop 224 16 = some (.goto 11, 3) := by decide +kernel
theorem o224_19 : zop 224 19 = some (.astore 7, 2) := by decide +kernel
theorem o224_21 : zop 224 21 = some (.iconst 1, 1) := by decide +kernel
theorem o224_22 : zop 224 22 = some (.ireturn, 1) := by decide +kernel
theorem o224_23 : zop 224 23 = some (.astore 7, 2) := by decide +kernel
theorem o224_25 : zop 224 25 = some (.iconst 2, 1) := by decide +kernel
theorem o224_26 : zop 224 26 = some (.ireturn, 1) := by decide +kernel
theorem o224_27 : zop 224 27 = some (.iconst 0, 1) := by decide +kernel
theorem o224_28 : zop 224 28 = some (.ireturn, 1) := by decide +kernel
theorem o225_0 : zop 225 0 = some (.aload 4, 2) := by decide +kernel
theorem o225_2 : zop 225 2 = some (.iconst 0, 1) := by decide +kernel
theorem o225_3 : zop 225 3 = some (.aload_n 0, 1) := by decide +kernel
theorem o225_4 : zop 225 4 = some (.iload_n 1, 1) := by decide +kernel
theorem o225_5 : zop 225 5 = some (.iload_n 2, 1) := by decide +kernel
theorem o225_6 : zop 225 6 = some (.iload_n 3, 1) := by decide +kernel
theorem o225_7 : zop 225 7 = some (.invokevirtual 128, 3) := by decide +kernel
theorem o225_10 : zop 225 10 = some (.i2l, 1) := by decide +kernel
theorem o225_11 : zop 225 11 = some (.lastore, 1) := by decide +kernel
theorem o225_12 : zop 225 12 = some (.goto 11, 3) := by decide +kernel
theorem o225_15 : zop 225 15 = some (.astore 5, 2) := by decide +kernel
theorem o225_17 : zop 225 17 = some (.iconst 1, 1) := by decide +kernel
theorem o225_18 : zop 225 18 = some (.ireturn, 1) := by decide +kernel
theorem o225_19 : zop 225 19 = some (.astore 5, 2) := by decide +kernel
theorem o225_21 : zop 225 21 = some (.iconst 2, 1) := by decide +kernel
theorem o225_22 : zop 225 22 = some (.ireturn, 1) := by decide +kernel
theorem o225_23 : zop 225 23 = some (.iconst 0, 1) := by decide +kernel
theorem o225_24 : zop 225 24 = some (.ireturn, 1) := by decide +kernel
theorem o226_0 : zop 226 0 = some (.aload_n 0, 1) := by decide +kernel
theorem o226_1 : zop 226 1 = some (.getfield 9900, 3) := by decide +kernel
theorem o226_4 : zop 226 4 = some (.arraylength, 1) := by decide +kernel
theorem o226_5 : zop 226 5 = some (.aload_n 0, 1) := by decide +kernel
theorem o226_6 : zop 226 6 = some (.invokevirtual 227, 3) := by decide +kernel
theorem o226_9 : zop 226 9 = some (.ishr, 1) := by decide +kernel
theorem o226_10 : zop 226 10 = some (.ireturn, 1) := by decide +kernel
theorem o227_0 : zop 227 0 = some (.getstatic 0, 3) := by decide +kernel
theorem o227_3 : zop 227 3 = some (.ifCond .eq 10, 3) := by decide +kernel
theorem o227_6 : zop 227 6 = some (.aload_n 0, 1) := by decide +kernel
theorem o227_7 : zop 227 7 = some (.getfield 9901, 3) := by decide +kernel
theorem o227_10 : zop 227 10 = some (.goto 4, 3) := by decide +kernel
theorem o227_13 : zop 227 13 = some (.iconst 1, 1) := by decide +kernel
theorem o227_14 : zop 227 14 = some (.ireturn, 1) := by decide +kernel
theorem o228_0 : zop 228 0 = some (.aload_n 0, 1) := by decide +kernel
theorem o228_1 : zop 228 1 = some (.invokevirtual 229, 3) := by decide +kernel
theorem o228_4 : zop 228 4 = some (.ifCond .eq 12, 3) := by decide +kernel
theorem o228_7 : zop 228 7 = some (.aload_n 0, 1) := by decide +kernel
theorem o228_8 : zop 228 8 = some (.getfield 9900, 3) := by decide +kernel
theorem o228_11 : zop 228 11 = some (.iload_n 1, 1) := by decide +kernel
theorem o228_12 : zop 228 12 = some (.invokestatic 231, 3) := by decide +kernel
theorem o228_15 : zop 228 15 = some (.ireturn, 1) := by decide +kernel
theorem o228_16 : zop 228 16 = some (.aload_n 0, 1) := by decide +kernel
theorem o228_17 : zop 228 17 = some (.getfield 9900, 3) := by decide +kernel
theorem o228_20 : zop 228 20 = some (.iload_n 1, 1) := by decide +kernel
theorem o228_21 : zop 228 21 = some (.nop, 3) := by decide +kernel
theorem o228_24 : zop 228 24 = some (.ireturn, 1) := by decide +kernel
theorem o229_0 : zop 229 0 = some (.getstatic 0, 3) := by decide +kernel
theorem o229_3 : zop 229 3 = some (.ifCond .eq 14, 3) := by decide +kernel
theorem o229_6 : zop 229 6 = some (.aload_n 0, 1) := by decide +kernel
theorem o229_7 : zop 229 7 = some (.getfield 9901, 3) := by decide +kernel
theorem o229_10 : zop 229 10 = some (.ifCond .ne 7, 3) := by decide +kernel
theorem o229_13 : zop 229 13 = some (.iconst 1, 1) := by decide +kernel
theorem o229_14 : zop 229 14 = some (.goto 4, 3) := by decide +kernel
theorem o229_17 : zop 229 17 = some (.iconst 0, 1) := by decide +kernel
theorem o229_18 : zop 229 18 = some (.ireturn, 1) := by decide +kernel
theorem o230_0 : zop 230 0 = some (.iload_n 0, 1) := by decide +kernel
theorem o230_1 : zop 230 1 = some (.iload_n 1, 1) := by decide +kernel
theorem o230_2 : zop 230 2 = some (.getstatic 1, 3) := by decide +kernel
theorem o230_5 : zop 230 5 = some (.invokestatic 232, 3) := by decide +kernel
theorem o230_8 : zop 230 8 = some (.pop, 1) := by decide +kernel
theorem o230_9 : zop 230 9 = some (.return_, 1) := by decide +kernel
theorem o231_0 : zop 231 0 = some (.iload_n 1, 1) := by decide +kernel
theorem o231_1 : zop 231 1 = some (.aload_n 0, 1) := by decide +kernel
theorem o231_2 : zop 231 2 = some (.arraylength, 1) := by decide +kernel
theorem o231_3 : zop 231 3 = some (.invokestatic 230, 3) := by decide +kernel
theorem o231_6 : zop 231 6 = some (.aload_n 0, 1) := by decide +kernel
theorem o231_7 : zop 231 7 = some (.iload_n 1, 1) := by decide +kernel
theorem o231_8 : zop 231 8 = some (.baload, 1) := by decide +kernel
theorem o231_9 : zop 231 9 = some (.sipush 255, 3) := by decide +kernel
theorem o231_12 : zop 231 12 = some (.iand, 1) := by decide +kernel
theorem o231_13 : zop 231 13 = some (.i2c, 1) := by decide +kernel
theorem o231_14 : zop 231 14 = some (.ireturn, 1) := by decide +kernel
theorem o232_0 : zop 232 0 = some (.iload_n 0, 1) := by decide +kernel
theorem o232_1 : zop 232 1 = some (.ifCond .lt 8, 3) := by decide +kernel
theorem o232_4 : zop 232 4 = some (.iload_n 0, 1) := by decide +kernel
theorem o232_5 : zop 232 5 = some (.iload_n 1, 1) := by decide +kernel
theorem o232_6 : zop 232 6 = some (.if_icmp .lt 10, 3) := by decide +kernel
theorem o232_9 : zop 232 9 = some (.aload_n 2, 1) := by decide +kernel
theorem o232_10 : zop 232 10 = some (.iload_n 0, 1) := by decide +kernel
theorem o232_11 : zop 232 11 = some (.iload_n 1, 1) := by decide +kernel
theorem o232_12 : zop 232 12 = some (.nop, 3) := by decide +kernel
theorem o232_15 : zop 232 15 = some (.athrow, 1) := by decide +kernel
theorem o232_16 : zop 232 16 = some (.iload_n 0, 1) := by decide +kernel
theorem o232_17 : zop 232 17 = some (.ireturn, 1) := by decide +kernel
theorem o233_0 : zop 233 0 = some (.iconst 0, 1) := by decide +kernel
theorem o233_1 : zop 233 1 = some (.istore_n 2, 1) := by decide +kernel
theorem o233_2 : zop 233 2 = some (.aload_n 0, 1) := by decide +kernel
theorem o233_3 : zop 233 3 = some (.arraylength, 1) := by decide +kernel
theorem o233_4 : zop 233 4 = some (.istore_n 3, 1) := by decide +kernel
theorem o233_5 : zop 233 5 = some (.iload_n 2, 1) := by decide +kernel
theorem o233_6 : zop 233 6 = some (.iload_n 3, 1) := by decide +kernel
theorem o233_7 : zop 233 7 = some (.if_icmp .ge 13, 3) := by decide +kernel
theorem o233_10 : zop 233 10 = some (.aload_n 0, 1) := by decide +kernel
theorem o233_11 : zop 233 11 = some (.iload_n 2, 1) := by decide +kernel
theorem o233_12 : zop 233 12 = some (.iload_n 1, 1) := by decide +kernel
theorem o233_13 : zop 233 13 = some (.iastore, 1) := by decide +kernel
theorem o233_14 : zop 233 14 = some (.iinc 2 1, 3) := by decide +kernel
theorem o233_17 : zop 233 17 = some (.goto (-12), 3) := by decide +kernel
theorem o233_20 : zop 233 20 = some (.return_, 1) := by decide +kernel
theorem o234_0 : zop 234 0 = some (.new 9, 3) := by decide +kernel
theorem o234_3 : zop 234 3 = some (.dup, 1) := by decide +kernel
theorem o234_4 : zop 234 4 = some (.invokespecial 97, 3) := by decide +kernel
theorem o234_7 : zop 234 7 = some (.astore_n 1, 1) := by decide +kernel
theorem o234_8 : zop 234 8 = some (.new 10, 3) := by decide +kernel
theorem o234_11 : zop 234 11 = some (.dup, 1) := by decide +kernel
theorem o234_12 : zop 234 12 = some (.invokespecial 129, 3) := by decide +kernel
theorem o234_15 : zop 234 15 = some (.astore_n 2, 1) := by decide +kernel
theorem o234_16 : zop 234 16 = some (.iconst 1, 1) := by decide +kernel
theorem o234_17 : zop 234 17 = some (.newarray .long, 2) := by decide +kernel
theorem o234_19 : zop 234 19 = some (.astore_n 3, 1) := by decide +kernel
theorem o234_20 : zop 234 20 = some (.iconst 0, 1) := by decide +kernel
theorem o234_21 : zop 234 21 = some (.istore 4, 2) := by decide +kernel
theorem o234_23 : zop 234 23 = some (.iload 4, 2) := by decide +kernel
theorem o234_25 : zop 234 25 = some (.aload_n 0, 1) := by decide +kernel
theorem o234_26 : zop 234 26 = some (.arraylength, 1) := by decide +kernel
theorem o234_27 : zop 234 27 = some (.bipush 6, 2) := by decide +kernel
theorem o234_29 : zop 234 29 = some (.isub, 1) := by decide +kernel
theorem o234_30 : zop 234 30 = some (.if_icmp .gt 1455, 3) := by decide +kernel
theorem o234_33 : zop 234 33 = some (.aload_n 0, 1) := by decide +kernel
theorem o234_34 : zop 234 34 = some (.iload 4, 2) := by decide +kernel
theorem o234_36 : zop 234 36 = some (.iaload, 1) := by decide +kernel
theorem o234_37 : zop 234 37 = some (.bipush 31, 2) := by decide +kernel
theorem o234_39 : zop 234 39 = some (.iand, 1) := by decide +kernel
theorem o234_40 : zop 234 40 = some (.tableswitch 1439 0 23 #[112, 185, 241, 254, 310, 378, 446, 514, 582, 662, 675, 743, 811, 879, 947, 1015, 1026, 1082, 1162, 1175, 1231, 1335, 1415, 1426], 112) := by decide +kernel
theorem o234_152 : zop 234 152 = some (.aload_n 1, 1) := by decide +kernel
theorem o234_153 : zop 234 153 = some (.aload_n 0, 1) := by decide +kernel
theorem o234_154 : zop 234 154 = some (.iload 4, 2) := by decide +kernel
theorem o234_156 : zop 234 156 = some (.iconst 1, 1) := by decide +kernel
theorem o234_157 : zop 234 157 = some (.iadd, 1) := by decide +kernel
theorem o234_158 : zop 234 158 = some (.iaload, 1) := by decide +kernel
theorem o234_159 : zop 234 159 = some (.aload_n 0, 1) := by decide +kernel
theorem o234_160 : zop 234 160 = some (.iload 4, 2) := by decide +kernel
theorem o234_162 : zop 234 162 = some (.iconst 2, 1) := by decide +kernel
theorem o234_163 : zop 234 163 = some (.iadd, 1) := by decide +kernel
theorem o234_164 : zop 234 164 = some (.iaload, 1) := by decide +kernel
theorem o234_165 : zop 234 165 = some (.aload_n 0, 1) := by decide +kernel
theorem o234_166 : zop 234 166 = some (.iload 4, 2) := by decide +kernel
theorem o234_168 : zop 234 168 = some (.iconst 3, 1) := by decide +kernel
theorem o234_169 : zop 234 169 = some (.iadd, 1) := by decide +kernel
theorem o234_170 : zop 234 170 = some (.iaload, 1) := by decide +kernel
theorem o234_171 : zop 234 171 = some (.aload_n 0, 1) := by decide +kernel
theorem o234_172 : zop 234 172 = some (.iload 4, 2) := by decide +kernel
theorem o234_174 : zop 234 174 = some (.iconst 4, 1) := by decide +kernel
theorem o234_175 : zop 234 175 = some (.iadd, 1) := by decide +kernel
theorem o234_176 : zop 234 176 = some (.iaload, 1) := by decide +kernel
theorem o234_177 : zop 234 177 = some (.aload_n 0, 1) := by decide +kernel
theorem o234_178 : zop 234 178 = some (.iload 4, 2) := by decide +kernel
theorem o234_180 : zop 234 180 = some (.iconst 5, 1) := by decide +kernel
theorem o234_181 : zop 234 181 = some (.iadd, 1) := by decide +kernel
theorem o234_182 : zop 234 182 = some (.iaload, 1) := by decide +kernel
theorem o234_183 : zop 234 183 = some (.invokevirtual 98, 3) := by decide +kernel
theorem o234_186 : zop 234 186 = some (.aload_n 2, 1) := by decide +kernel
theorem o234_187 : zop 234 187 = some (.aload_n 0, 1) := by decide +kernel
theorem o234_188 : zop 234 188 = some (.iload 4, 2) := by decide +kernel
theorem o234_190 : zop 234 190 = some (.iconst 1, 1) := by decide +kernel
theorem o234_191 : zop 234 191 = some (.iadd, 1) := by decide +kernel
theorem o234_192 : zop 234 192 = some (.iaload, 1) := by decide +kernel
theorem o234_193 : zop 234 193 = some (.aload_n 0, 1) := by decide +kernel
theorem o234_194 : zop 234 194 = some (.iload 4, 2) := by decide +kernel
theorem o234_196 : zop 234 196 = some (.iconst 2, 1) := by decide +kernel
theorem o234_197 : zop 234 197 = some (.iadd, 1) := by decide +kernel
theorem o234_198 : zop 234 198 = some (.iaload, 1) := by decide +kernel
theorem o234_199 : zop 234 199 = some (.aload_n 0, 1) := by decide +kernel
theorem o234_200 : zop 234 200 = some (.iload 4, 2) := by decide +kernel
theorem o234_202 : zop 234 202 = some (.iconst 3, 1) := by decide +kernel
theorem o234_203 : zop 234 203 = some (.iadd, 1) := by decide +kernel
theorem o234_204 : zop 234 204 = some (.iaload, 1) := by decide +kernel
theorem o234_205 : zop 234 205 = some (.aload_n 0, 1) := by decide +kernel
theorem o234_206 : zop 234 206 = some (.iload 4, 2) := by decide +kernel
theorem o234_208 : zop 234 208 = some (.iconst 4, 1) := by decide +kernel
theorem o234_209 : zop 234 209 = some (.iadd, 1) := by decide +kernel
theorem o234_210 : zop 234 210 = some (.iaload, 1) := by decide +kernel
theorem o234_211 : zop 234 211 = some (.aload_n 0, 1) := by decide +kernel
theorem o234_212 : zop 234 212 = some (.iload 4, 2) := by decide +kernel
theorem o234_214 : zop 234 214 = some (.iconst 5, 1) := by decide +kernel
theorem o234_215 : zop 234 215 = some (.iadd, 1) := by decide +kernel
theorem o234_216 : zop 234 216 = some (.iaload, 1) := by decide +kernel
theorem o234_217 : zop 234 217 = some (.invokevirtual 131, 3) := by decide +kernel
theorem o234_220 : zop 234 220 = some (.if_icmp .eq 1259, 3) := by decide +kernel
theorem o234_223 : zop 234 223 = some (.iconst 0, 1) := by decide +kernel
theorem o234_224 : zop 234 224 = some (.ireturn, 1) := by decide +kernel
theorem o234_225 : zop 234 225 = some (.aload_n 1, 1) := by decide +kernel
theorem o234_226 : zop 234 226 = some (.aload_n 0, 1) := by decide +kernel
theorem o234_227 : zop 234 227 = some (.iload 4, 2) := by decide +kernel
theorem o234_229 : zop 234 229 = some (.iconst 1, 1) := by decide +kernel
theorem o234_230 : zop 234 230 = some (.iadd, 1) := by decide +kernel
theorem o234_231 : zop 234 231 = some (.iaload, 1) := by decide +kernel
theorem o234_232 : zop 234 232 = some (.aload_n 3, 1) := by decide +kernel
theorem o234_233 : zop 234 233 = some (.invokestatic 209, 3) := by decide +kernel
theorem o234_236 : zop 234 236 = some (.istore 5, 2) := by decide +kernel
theorem o234_238 : zop 234 238 = some (.aload_n 2, 1) := by decide +kernel
theorem o234_239 : zop 234 239 = some (.aload_n 0, 1) := by decide +kernel
theorem o234_240 : zop 234 240 = some (.iload 4, 2) := by decide +kernel
theorem o234_242 : zop 234 242 = some (.iconst 1, 1) := by decide +kernel
theorem o234_243 : zop 234 243 = some (.iadd, 1) := by decide +kernel
theorem o234_244 : zop 234 244 = some (.iaload, 1) := by decide +kernel
theorem o234_245 : zop 234 245 = some (.invokevirtual 132, 3) := by decide +kernel
theorem o234_248 : zop 234 248 = some (.istore 6, 2) := by decide +kernel
theorem o234_250 : zop 234 250 = some (.aload_n 2, 1) := by decide +kernel
theorem o234_251 : zop 234 251 = some (.invokevirtual 130, 3) := by decide +kernel
theorem o234_254 : zop 234 254 = some (.iload 5, 2) := by decide +kernel
theorem o234_256 : zop 234 256 = some (.if_icmp .eq 5, 3) := by decide +kernel
theorem o234_259 : zop 234 259 = some (.iconst 0, 1) := by decide +kernel
theorem o234_260 : zop 234 260 = some (.ireturn, 1) := by decide +kernel
theorem o234_261 : zop 234 261 = some (.iload 5, 2) := by decide +kernel
theorem o234_263 : zop 234 263 = some (.ifCond .ne 15, 3) := by decide +kernel
theorem o234_266 : zop 234 266 = some (.aload_n 3, 1) := by decide +kernel
theorem o234_267 : zop 234 267 = some (.iconst 0, 1) := by decide +kernel
theorem o234_268 : zop 234 268 = some (.laload, 1) := by decide +kernel
theorem o234_269 : zop 234 269 = some (.iload 6, 2) := by decide +kernel
theorem o234_271 : zop 234 271 = some (.i2l, 1) := by decide +kernel
theorem o234_272 : zop 234 272 = some (.lcmp, 1) := by decide +kernel
theorem o234_273 : zop 234 273 = some (.ifCond .eq 5, 3) := by decide +kernel
theorem o234_276 : zop 234 276 = some (.iconst 0, 1) := by decide +kernel
theorem o234_277 : zop 234 277 = some (.ireturn, 1) := by decide +kernel
theorem o234_278 : zop 234 278 = some (.goto 1201, 3) := by decide +kernel
theorem o234_281 : zop 234 281 = some (.aload_n 1, 1) := by decide +kernel
theorem o234_282 : zop 234 282 = some (.invokevirtual 99, 3) := by decide +kernel
theorem o234_285 : zop 234 285 = some (.aload_n 2, 1) := by decide +kernel
theorem o234_286 : zop 234 286 = some (.invokevirtual 161, 3) := by decide +kernel
theorem o234_289 : zop 234 289 = some (.if_icmp .eq 1190, 3) := by decide +kernel
theorem o234_292 : zop 234 292 = some (.iconst 0, 1) := by decide +kernel
theorem o234_293 : zop 234 293 = some (.ireturn, 1) := by decide +kernel
theorem o234_294 : zop 234 294 = some (.aload_n 1, 1) := by decide +kernel
theorem o234_295 : zop 234 295 = some (.aload_n 0, 1) := by decide +kernel
theorem o234_296 : zop 234 296 = some (.iload 4, 2) := by decide +kernel
theorem o234_298 : zop 234 298 = some (.iconst 1, 1) := by decide +kernel
theorem o234_299 : zop 234 299 = some (.iadd, 1) := by decide +kernel
theorem o234_300 : zop 234 300 = some (.iaload, 1) := by decide +kernel
theorem o234_301 : zop 234 301 = some (.aload_n 3, 1) := by decide +kernel
theorem o234_302 : zop 234 302 = some (.invokestatic 210, 3) := by decide +kernel
theorem o234_305 : zop 234 305 = some (.istore 5, 2) := by decide +kernel
theorem o234_307 : zop 234 307 = some (.aload_n 2, 1) := by decide +kernel
theorem o234_308 : zop 234 308 = some (.aload_n 0, 1) := by decide +kernel
theorem o234_309 : zop 234 309 = some (.iload 4, 2) := by decide +kernel
theorem o234_311 : zop 234 311 = some (.iconst 1, 1) := by decide +kernel
theorem o234_312 : zop 234 312 = some (.iadd, 1) := by decide +kernel
theorem o234_313 : zop 234 313 = some (.iaload, 1) := by decide +kernel
theorem o234_314 : zop 234 314 = some (.invokevirtual 162, 3) := by decide +kernel
theorem o234_317 : zop 234 317 = some (.istore 6, 2) := by decide +kernel
theorem o234_319 : zop 234 319 = some (.aload_n 2, 1) := by decide +kernel
theorem o234_320 : zop 234 320 = some (.invokevirtual 130, 3) := by decide +kernel
theorem o234_323 : zop 234 323 = some (.iload 5, 2) := by decide +kernel
theorem o234_325 : zop 234 325 = some (.if_icmp .eq 5, 3) := by decide +kernel
theorem o234_328 : zop 234 328 = some (.iconst 0, 1) := by decide +kernel
theorem o234_329 : zop 234 329 = some (.ireturn, 1) := by decide +kernel
theorem o234_330 : zop 234 330 = some (.iload 5, 2) := by decide +kernel
theorem o234_332 : zop 234 332 = some (.ifCond .ne 15, 3) := by decide +kernel
theorem o234_335 : zop 234 335 = some (.aload_n 3, 1) := by decide +kernel
theorem o234_336 : zop 234 336 = some (.iconst 0, 1) := by decide +kernel
theorem o234_337 : zop 234 337 = some (.laload, 1) := by decide +kernel
theorem o234_338 : zop 234 338 = some (.iload 6, 2) := by decide +kernel
theorem o234_340 : zop 234 340 = some (.i2l, 1) := by decide +kernel
theorem o234_341 : zop 234 341 = some (.lcmp, 1) := by decide +kernel
theorem o234_342 : zop 234 342 = some (.ifCond .eq 5, 3) := by decide +kernel
theorem o234_345 : zop 234 345 = some (.iconst 0, 1) := by decide +kernel
theorem o234_346 : zop 234 346 = some (.ireturn, 1) := by decide +kernel
theorem o234_347 : zop 234 347 = some (.goto 1132, 3) := by decide +kernel
theorem o234_350 : zop 234 350 = some (.aload_n 1, 1) := by decide +kernel
theorem o234_351 : zop 234 351 = some (.aload_n 0, 1) := by decide +kernel
theorem o234_352 : zop 234 352 = some (.iload 4, 2) := by decide +kernel
theorem o234_354 : zop 234 354 = some (.iconst 1, 1) := by decide +kernel
theorem o234_355 : zop 234 355 = some (.iadd, 1) := by decide +kernel
theorem o234_356 : zop 234 356 = some (.iaload, 1) := by decide +kernel
theorem o234_357 : zop 234 357 = some (.aload_n 0, 1) := by decide +kernel
theorem o234_358 : zop 234 358 = some (.iload 4, 2) := by decide +kernel
theorem o234_360 : zop 234 360 = some (.iconst 2, 1) := by decide +kernel
theorem o234_361 : zop 234 361 = some (.iadd, 1) := by decide +kernel
theorem o234_362 : zop 234 362 = some (.iaload, 1) := by decide +kernel
theorem o234_363 : zop 234 363 = some (.aload_n 3, 1) := by decide +kernel
theorem o234_364 : zop 234 364 = some (.invokestatic 211, 3) := by decide +kernel
theorem o234_367 : zop 234 367 = some (.istore 5, 2) := by decide +kernel
theorem o234_369 : zop 234 369 = some (.aload_n 2, 1) := by decide +kernel
theorem o234_370 : zop 234 370 = some (.aload_n 0, 1) := by decide +kernel
theorem o234_371 : zop 234 371 = some (.iload 4, 2) := by decide +kernel
theorem o234_373 : zop 234 373 = some (.iconst 1, 1) := by decide +kernel
theorem o234_374 : zop 234 374 = some (.iadd, 1) := by decide +kernel
theorem o234_375 : zop 234 375 = some (.iaload, 1) := by decide +kernel
theorem o234_376 : zop 234 376 = some (.aload_n 0, 1) := by decide +kernel
theorem o234_377 : zop 234 377 = some (.iload 4, 2) := by decide +kernel
theorem o234_379 : zop 234 379 = some (.iconst 2, 1) := by decide +kernel
theorem o234_380 : zop 234 380 = some (.iadd, 1) := by decide +kernel
theorem o234_381 : zop 234 381 = some (.iaload, 1) := by decide +kernel
theorem o234_382 : zop 234 382 = some (.invokevirtual 167, 3) := by decide +kernel
theorem o234_385 : zop 234 385 = some (.istore 6, 2) := by decide +kernel
theorem o234_387 : zop 234 387 = some (.aload_n 2, 1) := by decide +kernel
theorem o234_388 : zop 234 388 = some (.invokevirtual 130, 3) := by decide +kernel
theorem o234_391 : zop 234 391 = some (.iload 5, 2) := by decide +kernel
theorem o234_393 : zop 234 393 = some (.if_icmp .eq 5, 3) := by decide +kernel
theorem o234_396 : zop 234 396 = some (.iconst 0, 1) := by decide +kernel
theorem o234_397 : zop 234 397 = some (.ireturn, 1) := by decide +kernel
theorem o234_398 : zop 234 398 = some (.iload 5, 2) := by decide +kernel
theorem o234_400 : zop 234 400 = some (.ifCond .ne 15, 3) := by decide +kernel
theorem o234_403 : zop 234 403 = some (.aload_n 3, 1) := by decide +kernel
theorem o234_404 : zop 234 404 = some (.iconst 0, 1) := by decide +kernel
theorem o234_405 : zop 234 405 = some (.laload, 1) := by decide +kernel
theorem o234_406 : zop 234 406 = some (.iload 6, 2) := by decide +kernel
theorem o234_408 : zop 234 408 = some (.i2l, 1) := by decide +kernel
theorem o234_409 : zop 234 409 = some (.lcmp, 1) := by decide +kernel
theorem o234_410 : zop 234 410 = some (.ifCond .eq 5, 3) := by decide +kernel
theorem o234_413 : zop 234 413 = some (.iconst 0, 1) := by decide +kernel
theorem o234_414 : zop 234 414 = some (.ireturn, 1) := by decide +kernel
theorem o234_415 : zop 234 415 = some (.goto 1064, 3) := by decide +kernel
theorem o234_418 : zop 234 418 = some (.aload_n 1, 1) := by decide +kernel
theorem o234_419 : zop 234 419 = some (.aload_n 0, 1) := by decide +kernel
theorem o234_420 : zop 234 420 = some (.iload 4, 2) := by decide +kernel
theorem o234_422 : zop 234 422 = some (.iconst 1, 1) := by decide +kernel
theorem o234_423 : zop 234 423 = some (.iadd, 1) := by decide +kernel
theorem o234_424 : zop 234 424 = some (.iaload, 1) := by decide +kernel
theorem o234_425 : zop 234 425 = some (.aload_n 0, 1) := by decide +kernel
theorem o234_426 : zop 234 426 = some (.iload 4, 2) := by decide +kernel
theorem o234_428 : zop 234 428 = some (.iconst 2, 1) := by decide +kernel
theorem o234_429 : zop 234 429 = some (.iadd, 1) := by decide +kernel
theorem o234_430 : zop 234 430 = some (.iaload, 1) := by decide +kernel
theorem o234_431 : zop 234 431 = some (.aload_n 3, 1) := by decide +kernel
theorem o234_432 : zop 234 432 = some (.invokestatic 212, 3) := by decide +kernel
theorem o234_435 : zop 234 435 = some (.istore 5, 2) := by decide +kernel
theorem o234_437 : zop 234 437 = some (.aload_n 2, 1) := by decide +kernel
theorem o234_438 : zop 234 438 = some (.aload_n 0, 1) := by decide +kernel
theorem o234_439 : zop 234 439 = some (.iload 4, 2) := by decide +kernel
theorem o234_441 : zop 234 441 = some (.iconst 1, 1) := by decide +kernel
theorem o234_442 : zop 234 442 = some (.iadd, 1) := by decide +kernel
theorem o234_443 : zop 234 443 = some (.iaload, 1) := by decide +kernel
theorem o234_444 : zop 234 444 = some (.aload_n 0, 1) := by decide +kernel
theorem o234_445 : zop 234 445 = some (.iload 4, 2) := by decide +kernel
theorem o234_447 : zop 234 447 = some (.iconst 2, 1) := by decide +kernel
theorem o234_448 : zop 234 448 = some (.iadd, 1) := by decide +kernel
theorem o234_449 : zop 234 449 = some (.iaload, 1) := by decide +kernel
theorem o234_450 : zop 234 450 = some (.invokevirtual 171, 3) := by decide +kernel
theorem o234_453 : zop 234 453 = some (.istore 6, 2) := by decide +kernel
theorem o234_455 : zop 234 455 = some (.aload_n 2, 1) := by decide +kernel
theorem o234_456 : zop 234 456 = some (.invokevirtual 130, 3) := by decide +kernel
theorem o234_459 : zop 234 459 = some (.iload 5, 2) := by decide +kernel
theorem o234_461 : zop 234 461 = some (.if_icmp .eq 5, 3) := by decide +kernel
theorem o234_464 : zop 234 464 = some (.iconst 0, 1) := by decide +kernel
theorem o234_465 : zop 234 465 = some (.ireturn, 1) := by decide +kernel
theorem o234_466 : zop 234 466 = some (.iload 5, 2) := by decide +kernel
theorem o234_468 : zop 234 468 = some (.ifCond .ne 15, 3) := by decide +kernel
theorem o234_471 : zop 234 471 = some (.aload_n 3, 1) := by decide +kernel
theorem o234_472 : zop 234 472 = some (.iconst 0, 1) := by decide +kernel
theorem o234_473 : zop 234 473 = some (.laload, 1) := by decide +kernel
theorem o234_474 : zop 234 474 = some (.iload 6, 2) := by decide +kernel
theorem o234_476 : zop 234 476 = some (.i2l, 1) := by decide +kernel
theorem o234_477 : zop 234 477 = some (.lcmp, 1) := by decide +kernel
theorem o234_478 : zop 234 478 = some (.ifCond .eq 5, 3) := by decide +kernel
theorem o234_481 : zop 234 481 = some (.iconst 0, 1) := by decide +kernel
theorem o234_482 : zop 234 482 = some (.ireturn, 1) := by decide +kernel
theorem o234_483 : zop 234 483 = some (.goto 996, 3) := by decide +kernel
theorem o234_486 : zop 234 486 = some (.aload_n 1, 1) := by decide +kernel
theorem o234_487 : zop 234 487 = some (.aload_n 0, 1) := by decide +kernel
theorem o234_488 : zop 234 488 = some (.iload 4, 2) := by decide +kernel
theorem o234_490 : zop 234 490 = some (.iconst 1, 1) := by decide +kernel
theorem o234_491 : zop 234 491 = some (.iadd, 1) := by decide +kernel
theorem o234_492 : zop 234 492 = some (.iaload, 1) := by decide +kernel
theorem o234_493 : zop 234 493 = some (.aload_n 0, 1) := by decide +kernel
theorem o234_494 : zop 234 494 = some (.iload 4, 2) := by decide +kernel
theorem o234_496 : zop 234 496 = some (.iconst 2, 1) := by decide +kernel
theorem o234_497 : zop 234 497 = some (.iadd, 1) := by decide +kernel
theorem o234_498 : zop 234 498 = some (.iaload, 1) := by decide +kernel
theorem o234_499 : zop 234 499 = some (.aload_n 3, 1) := by decide +kernel
theorem o234_500 : zop 234 500 = some (.invokestatic 213, 3) := by decide +kernel
theorem o234_503 : zop 234 503 = some (.istore 5, 2) := by decide +kernel
theorem o234_505 : zop 234 505 = some (.aload_n 2, 1) := by decide +kernel
theorem o234_506 : zop 234 506 = some (.aload_n 0, 1) := by decide +kernel
theorem o234_507 : zop 234 507 = some (.iload 4, 2) := by decide +kernel
theorem o234_509 : zop 234 509 = some (.iconst 1, 1) := by decide +kernel
theorem o234_510 : zop 234 510 = some (.iadd, 1) := by decide +kernel
theorem o234_511 : zop 234 511 = some (.iaload, 1) := by decide +kernel
theorem o234_512 : zop 234 512 = some (.aload_n 0, 1) := by decide +kernel
theorem o234_513 : zop 234 513 = some (.iload 4, 2) := by decide +kernel
theorem o234_515 : zop 234 515 = some (.iconst 2, 1) := by decide +kernel
theorem o234_516 : zop 234 516 = some (.iadd, 1) := by decide +kernel
theorem o234_517 : zop 234 517 = some (.iaload, 1) := by decide +kernel
theorem o234_518 : zop 234 518 = some (.invokevirtual 173, 3) := by decide +kernel
theorem o234_521 : zop 234 521 = some (.istore 6, 2) := by decide +kernel
theorem o234_523 : zop 234 523 = some (.aload_n 2, 1) := by decide +kernel
theorem o234_524 : zop 234 524 = some (.invokevirtual 130, 3) := by decide +kernel
theorem o234_527 : zop 234 527 = some (.iload 5, 2) := by decide +kernel
theorem o234_529 : zop 234 529 = some (.if_icmp .eq 5, 3) := by decide +kernel
theorem o234_532 : zop 234 532 = some (.iconst 0, 1) := by decide +kernel
theorem o234_533 : zop 234 533 = some (.ireturn, 1) := by decide +kernel
theorem o234_534 : zop 234 534 = some (.iload 5, 2) := by decide +kernel
theorem o234_536 : zop 234 536 = some (.ifCond .ne 15, 3) := by decide +kernel
theorem o234_539 : zop 234 539 = some (.aload_n 3, 1) := by decide +kernel
theorem o234_540 : zop 234 540 = some (.iconst 0, 1) := by decide +kernel
theorem o234_541 : zop 234 541 = some (.laload, 1) := by decide +kernel
theorem o234_542 : zop 234 542 = some (.iload 6, 2) := by decide +kernel
theorem o234_544 : zop 234 544 = some (.i2l, 1) := by decide +kernel
theorem o234_545 : zop 234 545 = some (.lcmp, 1) := by decide +kernel
theorem o234_546 : zop 234 546 = some (.ifCond .eq 5, 3) := by decide +kernel
theorem o234_549 : zop 234 549 = some (.iconst 0, 1) := by decide +kernel
theorem o234_550 : zop 234 550 = some (.ireturn, 1) := by decide +kernel
theorem o234_551 : zop 234 551 = some (.goto 928, 3) := by decide +kernel
theorem o234_554 : zop 234 554 = some (.aload_n 1, 1) := by decide +kernel
theorem o234_555 : zop 234 555 = some (.aload_n 0, 1) := by decide +kernel
theorem o234_556 : zop 234 556 = some (.iload 4, 2) := by decide +kernel
theorem o234_558 : zop 234 558 = some (.iconst 1, 1) := by decide +kernel
theorem o234_559 : zop 234 559 = some (.iadd, 1) := by decide +kernel
theorem o234_560 : zop 234 560 = some (.iaload, 1) := by decide +kernel
theorem o234_561 : zop 234 561 = some (.aload_n 0, 1) := by decide +kernel
theorem o234_562 : zop 234 562 = some (.iload 4, 2) := by decide +kernel
theorem o234_564 : zop 234 564 = some (.iconst 2, 1) := by decide +kernel
theorem o234_565 : zop 234 565 = some (.iadd, 1) := by decide +kernel
theorem o234_566 : zop 234 566 = some (.iaload, 1) := by decide +kernel
theorem o234_567 : zop 234 567 = some (.aload_n 3, 1) := by decide +kernel
theorem o234_568 : zop 234 568 = some (.invokestatic 214, 3) := by decide +kernel
theorem o234_571 : zop 234 571 = some (.istore 5, 2) := by decide +kernel
theorem o234_573 : zop 234 573 = some (.aload_n 2, 1) := by decide +kernel
theorem o234_574 : zop 234 574 = some (.aload_n 0, 1) := by decide +kernel
theorem o234_575 : zop 234 575 = some (.iload 4, 2) := by decide +kernel
theorem o234_577 : zop 234 577 = some (.iconst 1, 1) := by decide +kernel
theorem o234_578 : zop 234 578 = some (.iadd, 1) := by decide +kernel
theorem o234_579 : zop 234 579 = some (.iaload, 1) := by decide +kernel
theorem o234_580 : zop 234 580 = some (.aload_n 0, 1) := by decide +kernel
theorem o234_581 : zop 234 581 = some (.iload 4, 2) := by decide +kernel
theorem o234_583 : zop 234 583 = some (.iconst 2, 1) := by decide +kernel
theorem o234_584 : zop 234 584 = some (.iadd, 1) := by decide +kernel
theorem o234_585 : zop 234 585 = some (.iaload, 1) := by decide +kernel
theorem o234_586 : zop 234 586 = some (.invokevirtual 175, 3) := by decide +kernel
theorem o234_589 : zop 234 589 = some (.istore 6, 2) := by decide +kernel
theorem o234_591 : zop 234 591 = some (.aload_n 2, 1) := by decide +kernel
theorem o234_592 : zop 234 592 = some (.invokevirtual 130, 3) := by decide +kernel
theorem o234_595 : zop 234 595 = some (.iload 5, 2) := by decide +kernel
theorem o234_597 : zop 234 597 = some (.if_icmp .eq 5, 3) := by decide +kernel
theorem o234_600 : zop 234 600 = some (.iconst 0, 1) := by decide +kernel
theorem o234_601 : zop 234 601 = some (.ireturn, 1) := by decide +kernel
theorem o234_602 : zop 234 602 = some (.iload 5, 2) := by decide +kernel
theorem o234_604 : zop 234 604 = some (.ifCond .ne 15, 3) := by decide +kernel
theorem o234_607 : zop 234 607 = some (.aload_n 3, 1) := by decide +kernel
theorem o234_608 : zop 234 608 = some (.iconst 0, 1) := by decide +kernel
theorem o234_609 : zop 234 609 = some (.laload, 1) := by decide +kernel
theorem o234_610 : zop 234 610 = some (.iload 6, 2) := by decide +kernel
theorem o234_612 : zop 234 612 = some (.i2l, 1) := by decide +kernel
theorem o234_613 : zop 234 613 = some (.lcmp, 1) := by decide +kernel
theorem o234_614 : zop 234 614 = some (.ifCond .eq 5, 3) := by decide +kernel
theorem o234_617 : zop 234 617 = some (.iconst 0, 1) := by decide +kernel
theorem o234_618 : zop 234 618 = some (.ireturn, 1) := by decide +kernel
theorem o234_619 : zop 234 619 = some (.goto 860, 3) := by decide +kernel
theorem o234_622 : zop 234 622 = some (.aload_n 1, 1) := by decide +kernel
theorem o234_623 : zop 234 623 = some (.aload_n 0, 1) := by decide +kernel
theorem o234_624 : zop 234 624 = some (.iload 4, 2) := by decide +kernel
theorem o234_626 : zop 234 626 = some (.iconst 1, 1) := by decide +kernel
theorem o234_627 : zop 234 627 = some (.iadd, 1) := by decide +kernel
theorem o234_628 : zop 234 628 = some (.iaload, 1) := by decide +kernel
theorem o234_629 : zop 234 629 = some (.aload_n 0, 1) := by decide +kernel
theorem o234_630 : zop 234 630 = some (.iload 4, 2) := by decide +kernel
theorem o234_632 : zop 234 632 = some (.iconst 2, 1) := by decide +kernel
theorem o234_633 : zop 234 633 = some (.iadd, 1) := by decide +kernel
theorem o234_634 : zop 234 634 = some (.iaload, 1) := by decide +kernel
theorem o234_635 : zop 234 635 = some (.aload_n 0, 1) := by decide +kernel
theorem o234_636 : zop 234 636 = some (.iload 4, 2) := by decide +kernel
theorem o234_638 : zop 234 638 = some (.iconst 3, 1) := by decide +kernel
theorem o234_639 : zop 234 639 = some (.iadd, 1) := by decide +kernel
theorem o234_640 : zop 234 640 = some (.iaload, 1) := by decide +kernel
theorem o234_641 : zop 234 641 = some (.aload_n 3, 1) := by decide +kernel
theorem o234_642 : zop 234 642 = some (.invokestatic 215, 3) := by decide +kernel
theorem o234_645 : zop 234 645 = some (.istore 5, 2) := by decide +kernel
theorem o234_647 : zop 234 647 = some (.aload_n 2, 1) := by decide +kernel
theorem o234_648 : zop 234 648 = some (.aload_n 0, 1) := by decide +kernel
theorem o234_649 : zop 234 649 = some (.iload 4, 2) := by decide +kernel
theorem o234_651 : zop 234 651 = some (.iconst 1, 1) := by decide +kernel
theorem o234_652 : zop 234 652 = some (.iadd, 1) := by decide +kernel
theorem o234_653 : zop 234 653 = some (.iaload, 1) := by decide +kernel
theorem o234_654 : zop 234 654 = some (.aload_n 0, 1) := by decide +kernel
theorem o234_655 : zop 234 655 = some (.iload 4, 2) := by decide +kernel
theorem o234_657 : zop 234 657 = some (.iconst 2, 1) := by decide +kernel
theorem o234_658 : zop 234 658 = some (.iadd, 1) := by decide +kernel
theorem o234_659 : zop 234 659 = some (.iaload, 1) := by decide +kernel
theorem o234_660 : zop 234 660 = some (.aload_n 0, 1) := by decide +kernel
theorem o234_661 : zop 234 661 = some (.iload 4, 2) := by decide +kernel
theorem o234_663 : zop 234 663 = some (.iconst 3, 1) := by decide +kernel
theorem o234_664 : zop 234 664 = some (.iadd, 1) := by decide +kernel
theorem o234_665 : zop 234 665 = some (.iaload, 1) := by decide +kernel
theorem o234_666 : zop 234 666 = some (.invokevirtual 177, 3) := by decide +kernel
theorem o234_669 : zop 234 669 = some (.istore 6, 2) := by decide +kernel
theorem o234_671 : zop 234 671 = some (.aload_n 2, 1) := by decide +kernel
theorem o234_672 : zop 234 672 = some (.invokevirtual 130, 3) := by decide +kernel
theorem o234_675 : zop 234 675 = some (.iload 5, 2) := by decide +kernel
theorem o234_677 : zop 234 677 = some (.if_icmp .eq 5, 3) := by decide +kernel
theorem o234_680 : zop 234 680 = some (.iconst 0, 1) := by decide +kernel
theorem o234_681 : zop 234 681 = some (.ireturn, 1) := by decide +kernel
theorem o234_682 : zop 234 682 = some (.iload 5, 2) := by decide +kernel
theorem o234_684 : zop 234 684 = some (.ifCond .ne 15, 3) := by decide +kernel
theorem o234_687 : zop 234 687 = some (.aload_n 3, 1) := by decide +kernel
theorem o234_688 : zop 234 688 = some (.iconst 0, 1) := by decide +kernel
theorem o234_689 : zop 234 689 = some (.laload, 1) := by decide +kernel
theorem o234_690 : zop 234 690 = some (.iload 6, 2) := by decide +kernel
theorem o234_692 : zop 234 692 = some (.i2l, 1) := by decide +kernel
theorem o234_693 : zop 234 693 = some (.lcmp, 1) := by decide +kernel
theorem o234_694 : zop 234 694 = some (.ifCond .eq 5, 3) := by decide +kernel
theorem o234_697 : zop 234 697 = some (.iconst 0, 1) := by decide +kernel
theorem o234_698 : zop 234 698 = some (.ireturn, 1) := by decide +kernel
theorem o234_699 : zop 234 699 = some (.goto 780, 3) := by decide +kernel
theorem o234_702 : zop 234 702 = some (.aload_n 1, 1) := by decide +kernel
theorem o234_703 : zop 234 703 = some (.invokevirtual 100, 3) := by decide +kernel
theorem o234_706 : zop 234 706 = some (.aload_n 2, 1) := by decide +kernel
theorem o234_707 : zop 234 707 = some (.invokevirtual 185, 3) := by decide +kernel
theorem o234_710 : zop 234 710 = some (.if_icmp .eq 769, 3) := by decide +kernel
theorem o234_713 : zop 234 713 = some (.iconst 0, 1) := by decide +kernel
theorem o234_714 : zop 234 714 = some (.ireturn, 1) := by decide +kernel
theorem o234_715 : zop 234 715 = some (.aload_n 1, 1) := by decide +kernel
theorem o234_716 : zop 234 716 = some (.aload_n 0, 1) := by decide +kernel
theorem o234_717 : zop 234 717 = some (.iload 4, 2) := by decide +kernel
theorem o234_719 : zop 234 719 = some (.iconst 1, 1) := by decide +kernel
theorem o234_720 : zop 234 720 = some (.iadd, 1) := by decide +kernel
theorem o234_721 : zop 234 721 = some (.iaload, 1) := by decide +kernel
theorem o234_722 : zop 234 722 = some (.aload_n 0, 1) := by decide +kernel
theorem o234_723 : zop 234 723 = some (.iload 4, 2) := by decide +kernel
theorem o234_725 : zop 234 725 = some (.iconst 2, 1) := by decide +kernel
theorem o234_726 : zop 234 726 = some (.iadd, 1) := by decide +kernel
theorem o234_727 : zop 234 727 = some (.iaload, 1) := by decide +kernel
theorem o234_728 : zop 234 728 = some (.aload_n 3, 1) := by decide +kernel
theorem o234_729 : zop 234 729 = some (.invokestatic 216, 3) := by decide +kernel
theorem o234_732 : zop 234 732 = some (.istore 5, 2) := by decide +kernel
theorem o234_734 : zop 234 734 = some (.aload_n 2, 1) := by decide +kernel
theorem o234_735 : zop 234 735 = some (.aload_n 0, 1) := by decide +kernel
theorem o234_736 : zop 234 736 = some (.iload 4, 2) := by decide +kernel
theorem o234_738 : zop 234 738 = some (.iconst 1, 1) := by decide +kernel
theorem o234_739 : zop 234 739 = some (.iadd, 1) := by decide +kernel
theorem o234_740 : zop 234 740 = some (.iaload, 1) := by decide +kernel
theorem o234_741 : zop 234 741 = some (.aload_n 0, 1) := by decide +kernel
theorem o234_742 : zop 234 742 = some (.iload 4, 2) := by decide +kernel
theorem o234_744 : zop 234 744 = some (.iconst 2, 1) := by decide +kernel
theorem o234_745 : zop 234 745 = some (.iadd, 1) := by decide +kernel
theorem o234_746 : zop 234 746 = some (.iaload, 1) := by decide +kernel
theorem o234_747 : zop 234 747 = some (.invokevirtual 186, 3) := by decide +kernel
theorem o234_750 : zop 234 750 = some (.istore 6, 2) := by decide +kernel
theorem o234_752 : zop 234 752 = some (.aload_n 2, 1) := by decide +kernel
theorem o234_753 : zop 234 753 = some (.invokevirtual 130, 3) := by decide +kernel
theorem o234_756 : zop 234 756 = some (.iload 5, 2) := by decide +kernel
theorem o234_758 : zop 234 758 = some (.if_icmp .eq 5, 3) := by decide +kernel
theorem o234_761 : zop 234 761 = some (.iconst 0, 1) := by decide +kernel
theorem o234_762 : zop 234 762 = some (.ireturn, 1) := by decide +kernel
theorem o234_763 : zop 234 763 = some (.iload 5, 2) := by decide +kernel
theorem o234_765 : zop 234 765 = some (.ifCond .ne 15, 3) := by decide +kernel
theorem o234_768 : zop 234 768 = some (.aload_n 3, 1) := by decide +kernel
theorem o234_769 : zop 234 769 = some (.iconst 0, 1) := by decide +kernel
theorem o234_770 : zop 234 770 = some (.laload, 1) := by decide +kernel
theorem o234_771 : zop 234 771 = some (.iload 6, 2) := by decide +kernel
theorem o234_773 : zop 234 773 = some (.i2l, 1) := by decide +kernel
theorem o234_774 : zop 234 774 = some (.lcmp, 1) := by decide +kernel
theorem o234_775 : zop 234 775 = some (.ifCond .eq 5, 3) := by decide +kernel
theorem o234_778 : zop 234 778 = some (.iconst 0, 1) := by decide +kernel
theorem o234_779 : zop 234 779 = some (.ireturn, 1) := by decide +kernel
theorem o234_780 : zop 234 780 = some (.goto 699, 3) := by decide +kernel
theorem o234_783 : zop 234 783 = some (.aload_n 1, 1) := by decide +kernel
theorem o234_784 : zop 234 784 = some (.aload_n 0, 1) := by decide +kernel
theorem o234_785 : zop 234 785 = some (.iload 4, 2) := by decide +kernel
theorem o234_787 : zop 234 787 = some (.iconst 1, 1) := by decide +kernel
theorem o234_788 : zop 234 788 = some (.iadd, 1) := by decide +kernel
theorem o234_789 : zop 234 789 = some (.iaload, 1) := by decide +kernel
theorem o234_790 : zop 234 790 = some (.aload_n 0, 1) := by decide +kernel
theorem o234_791 : zop 234 791 = some (.iload 4, 2) := by decide +kernel
theorem o234_793 : zop 234 793 = some (.iconst 2, 1) := by decide +kernel
theorem o234_794 : zop 234 794 = some (.iadd, 1) := by decide +kernel
theorem o234_795 : zop 234 795 = some (.iaload, 1) := by decide +kernel
theorem o234_796 : zop 234 796 = some (.aload_n 3, 1) := by decide +kernel
theorem o234_797 : zop 234 797 = some (.invokestatic 217, 3) := by decide +kernel
theorem o234_800 : zop 234 800 = some (.istore 5, 2) := by decide +kernel
theorem o234_802 : zop 234 802 = some (.aload_n 2, 1) := by decide +kernel
theorem o234_803 : zop 234 803 = some (.aload_n 0, 1) := by decide +kernel
theorem o234_804 : zop 234 804 = some (.iload 4, 2) := by decide +kernel
theorem o234_806 : zop 234 806 = some (.iconst 1, 1) := by decide +kernel
theorem o234_807 : zop 234 807 = some (.iadd, 1) := by decide +kernel
theorem o234_808 : zop 234 808 = some (.iaload, 1) := by decide +kernel
theorem o234_809 : zop 234 809 = some (.aload_n 0, 1) := by decide +kernel
theorem o234_810 : zop 234 810 = some (.iload 4, 2) := by decide +kernel
theorem o234_812 : zop 234 812 = some (.iconst 2, 1) := by decide +kernel
theorem o234_813 : zop 234 813 = some (.iadd, 1) := by decide +kernel
theorem o234_814 : zop 234 814 = some (.iaload, 1) := by decide +kernel
theorem o234_815 : zop 234 815 = some (.invokevirtual 187, 3) := by decide +kernel
theorem o234_818 : zop 234 818 = some (.istore 6, 2) := by decide +kernel
theorem o234_820 : zop 234 820 = some (.aload_n 2, 1) := by decide +kernel
theorem o234_821 : zop 234 821 = some (.invokevirtual 130, 3) := by decide +kernel
theorem o234_824 : zop 234 824 = some (.iload 5, 2) := by decide +kernel
theorem o234_826 : zop 234 826 = some (.if_icmp .eq 5, 3) := by decide +kernel
theorem o234_829 : zop 234 829 = some (.iconst 0, 1) := by decide +kernel
theorem o234_830 : zop 234 830 = some (.ireturn, 1) := by decide +kernel
theorem o234_831 : zop 234 831 = some (.iload 5, 2) := by decide +kernel
theorem o234_833 : zop 234 833 = some (.ifCond .ne 15, 3) := by decide +kernel
theorem o234_836 : zop 234 836 = some (.aload_n 3, 1) := by decide +kernel
theorem o234_837 : zop 234 837 = some (.iconst 0, 1) := by decide +kernel
theorem o234_838 : zop 234 838 = some (.laload, 1) := by decide +kernel
theorem o234_839 : zop 234 839 = some (.iload 6, 2) := by decide +kernel
theorem o234_841 : zop 234 841 = some (.i2l, 1) := by decide +kernel
theorem o234_842 : zop 234 842 = some (.lcmp, 1) := by decide +kernel
theorem o234_843 : zop 234 843 = some (.ifCond .eq 5, 3) := by decide +kernel
theorem o234_846 : zop 234 846 = some (.iconst 0, 1) := by decide +kernel
theorem o234_847 : zop 234 847 = some (.ireturn, 1) := by decide +kernel
theorem o234_848 : zop 234 848 = some (.goto 631, 3) := by decide +kernel
theorem o234_851 : zop 234 851 = some (.aload_n 1, 1) := by decide +kernel
theorem o234_852 : zop 234 852 = some (.aload_n 0, 1) := by decide +kernel
theorem o234_853 : zop 234 853 = some (.iload 4, 2) := by decide +kernel
theorem o234_855 : zop 234 855 = some (.iconst 1, 1) := by decide +kernel
theorem o234_856 : zop 234 856 = some (.iadd, 1) := by decide +kernel
theorem o234_857 : zop 234 857 = some (.iaload, 1) := by decide +kernel
theorem o234_858 : zop 234 858 = some (.aload_n 0, 1) := by decide +kernel
theorem o234_859 : zop 234 859 = some (.iload 4, 2) := by decide +kernel
theorem o234_861 : zop 234 861 = some (.iconst 2, 1) := by decide +kernel
theorem o234_862 : zop 234 862 = some (.iadd, 1) := by decide +kernel
theorem o234_863 : zop 234 863 = some (.iaload, 1) := by decide +kernel
theorem o234_864 : zop 234 864 = some (.aload_n 3, 1) := by decide +kernel
theorem o234_865 : zop 234 865 = some (.invokestatic 218, 3) := by decide +kernel
theorem o234_868 : zop 234 868 = some (.istore 5, 2) := by decide +kernel
theorem o234_870 : zop 234 870 = some (.aload_n 2, 1) := by decide +kernel
theorem o234_871 : zop 234 871 = some (.aload_n 0, 1) := by decide +kernel
theorem o234_872 : zop 234 872 = some (.iload 4, 2) := by decide +kernel
theorem o234_874 : zop 234 874 = some (.iconst 1, 1) := by decide +kernel
theorem o234_875 : zop 234 875 = some (.iadd, 1) := by decide +kernel
theorem o234_876 : zop 234 876 = some (.iaload, 1) := by decide +kernel
theorem o234_877 : zop 234 877 = some (.aload_n 0, 1) := by decide +kernel
theorem o234_878 : zop 234 878 = some (.iload 4, 2) := by decide +kernel
theorem o234_880 : zop 234 880 = some (.iconst 2, 1) := by decide +kernel
theorem o234_881 : zop 234 881 = some (.iadd, 1) := by decide +kernel
theorem o234_882 : zop 234 882 = some (.iaload, 1) := by decide +kernel
theorem o234_883 : zop 234 883 = some (.invokevirtual 188, 3) := by decide +kernel
theorem o234_886 : zop 234 886 = some (.istore 6, 2) := by decide +kernel
theorem o234_888 : zop 234 888 = some (.aload_n 2, 1) := by decide +kernel
theorem o234_889 : zop 234 889 = some (.invokevirtual 130, 3) := by decide +kernel
theorem o234_892 : zop 234 892 = some (.iload 5, 2) := by decide +kernel
theorem o234_894 : zop 234 894 = some (.if_icmp .eq 5, 3) := by decide +kernel
theorem o234_897 : zop 234 897 = some (.iconst 0, 1) := by decide +kernel
theorem o234_898 : zop 234 898 = some (.ireturn, 1) := by decide +kernel
theorem o234_899 : zop 234 899 = some (.iload 5, 2) := by decide +kernel
theorem o234_901 : zop 234 901 = some (.ifCond .ne 15, 3) := by decide +kernel
theorem o234_904 : zop 234 904 = some (.aload_n 3, 1) := by decide +kernel
theorem o234_905 : zop 234 905 = some (.iconst 0, 1) := by decide +kernel
theorem o234_906 : zop 234 906 = some (.laload, 1) := by decide +kernel
theorem o234_907 : zop 234 907 = some (.iload 6, 2) := by decide +kernel
theorem o234_909 : zop 234 909 = some (.i2l, 1) := by decide +kernel
theorem o234_910 : zop 234 910 = some (.lcmp, 1) := by decide +kernel
theorem o234_911 : zop 234 911 = some (.ifCond .eq 5, 3) := by decide +kernel
theorem o234_914 : zop 234 914 = some (.iconst 0, 1) := by decide +kernel
theorem o234_915 : zop 234 915 = some (.ireturn, 1) := by decide +kernel
theorem o234_916 : zop 234 916 = some (.goto 563, 3) := by decide +kernel
theorem o234_919 : zop 234 919 = some (.aload_n 1, 1) := by decide +kernel
theorem o234_920 : zop 234 920 = some (.aload_n 0, 1) := by decide +kernel
theorem o234_921 : zop 234 921 = some (.iload 4, 2) := by decide +kernel
theorem o234_923 : zop 234 923 = some (.iconst 1, 1) := by decide +kernel
theorem o234_924 : zop 234 924 = some (.iadd, 1) := by decide +kernel
theorem o234_925 : zop 234 925 = some (.iaload, 1) := by decide +kernel
theorem o234_926 : zop 234 926 = some (.aload_n 0, 1) := by decide +kernel
theorem o234_927 : zop 234 927 = some (.iload 4, 2) := by decide +kernel
theorem o234_929 : zop 234 929 = some (.iconst 2, 1) := by decide +kernel
theorem o234_930 : zop 234 930 = some (.iadd, 1) := by decide +kernel
theorem o234_931 : zop 234 931 = some (.iaload, 1) := by decide +kernel
theorem o234_932 : zop 234 932 = some (.aload_n 3, 1) := by decide +kernel
theorem o234_933 : zop 234 933 = some (.invokestatic 219, 3) := by decide +kernel
theorem o234_936 : zop 234 936 = some (.istore 5, 2) := by decide +kernel
theorem o234_938 : zop 234 938 = some (.aload_n 2, 1) := by decide +kernel
theorem o234_939 : zop 234 939 = some (.aload_n 0, 1) := by decide +kernel
theorem o234_940 : zop 234 940 = some (.iload 4, 2) := by decide +kernel
theorem o234_942 : zop 234 942 = some (.iconst 1, 1) := by decide +kernel
theorem o234_943 : zop 234 943 = some (.iadd, 1) := by decide +kernel
theorem o234_944 : zop 234 944 = some (.iaload, 1) := by decide +kernel
theorem o234_945 : zop 234 945 = some (.aload_n 0, 1) := by decide +kernel
theorem o234_946 : zop 234 946 = some (.iload 4, 2) := by decide +kernel
theorem o234_948 : zop 234 948 = some (.iconst 2, 1) := by decide +kernel
theorem o234_949 : zop 234 949 = some (.iadd, 1) := by decide +kernel
theorem o234_950 : zop 234 950 = some (.iaload, 1) := by decide +kernel
theorem o234_951 : zop 234 951 = some (.invokevirtual 189, 3) := by decide +kernel
theorem o234_954 : zop 234 954 = some (.istore 6, 2) := by decide +kernel
theorem o234_956 : zop 234 956 = some (.aload_n 2, 1) := by decide +kernel
theorem o234_957 : zop 234 957 = some (.invokevirtual 130, 3) := by decide +kernel
theorem o234_960 : zop 234 960 = some (.iload 5, 2) := by decide +kernel
theorem o234_962 : zop 234 962 = some (.if_icmp .eq 5, 3) := by decide +kernel
theorem o234_965 : zop 234 965 = some (.iconst 0, 1) := by decide +kernel
theorem o234_966 : zop 234 966 = some (.ireturn, 1) := by decide +kernel
theorem o234_967 : zop 234 967 = some (.iload 5, 2) := by decide +kernel
theorem o234_969 : zop 234 969 = some (.ifCond .ne 15, 3) := by decide +kernel
theorem o234_972 : zop 234 972 = some (.aload_n 3, 1) := by decide +kernel
theorem o234_973 : zop 234 973 = some (.iconst 0, 1) := by decide +kernel
theorem o234_974 : zop 234 974 = some (.laload, 1) := by decide +kernel
theorem o234_975 : zop 234 975 = some (.iload 6, 2) := by decide +kernel
theorem o234_977 : zop 234 977 = some (.i2l, 1) := by decide +kernel
theorem o234_978 : zop 234 978 = some (.lcmp, 1) := by decide +kernel
theorem o234_979 : zop 234 979 = some (.ifCond .eq 5, 3) := by decide +kernel
theorem o234_982 : zop 234 982 = some (.iconst 0, 1) := by decide +kernel
theorem o234_983 : zop 234 983 = some (.ireturn, 1) := by decide +kernel
theorem o234_984 : zop 234 984 = some (.goto 495, 3) := by decide +kernel
theorem o234_987 : zop 234 987 = some (.aload_n 1, 1) := by decide +kernel
theorem o234_988 : zop 234 988 = some (.aload_n 0, 1) := by decide +kernel
theorem o234_989 : zop 234 989 = some (.iload 4, 2) := by decide +kernel
theorem o234_991 : zop 234 991 = some (.iconst 1, 1) := by decide +kernel
theorem o234_992 : zop 234 992 = some (.iadd, 1) := by decide +kernel
theorem o234_993 : zop 234 993 = some (.iaload, 1) := by decide +kernel
theorem o234_994 : zop 234 994 = some (.aload_n 0, 1) := by decide +kernel
theorem o234_995 : zop 234 995 = some (.iload 4, 2) := by decide +kernel
theorem o234_997 : zop 234 997 = some (.iconst 2, 1) := by decide +kernel
theorem o234_998 : zop 234 998 = some (.iadd, 1) := by decide +kernel
theorem o234_999 : zop 234 999 = some (.iaload, 1) := by decide +kernel
theorem o234_1000 : zop 234 1000 = some (.aload_n 3, 1) := by decide +kernel
theorem o234_1001 : zop 234 1001 = some (.invokestatic 220, 3) := by decide +kernel
theorem o234_1004 : zop 234 1004 = some (.istore 5, 2) := by decide +kernel
theorem o234_1006 : zop 234 1006 = some (.aload_n 2, 1) := by decide +kernel
theorem o234_1007 : zop 234 1007 = some (.aload_n 0, 1) := by decide +kernel
theorem o234_1008 : zop 234 1008 = some (.iload 4, 2) := by decide +kernel
theorem o234_1010 : zop 234 1010 = some (.iconst 1, 1) := by decide +kernel
theorem o234_1011 : zop 234 1011 = some (.iadd, 1) := by decide +kernel
theorem o234_1012 : zop 234 1012 = some (.iaload, 1) := by decide +kernel
theorem o234_1013 : zop 234 1013 = some (.aload_n 0, 1) := by decide +kernel
theorem o234_1014 : zop 234 1014 = some (.iload 4, 2) := by decide +kernel
theorem o234_1016 : zop 234 1016 = some (.iconst 2, 1) := by decide +kernel
theorem o234_1017 : zop 234 1017 = some (.iadd, 1) := by decide +kernel
theorem o234_1018 : zop 234 1018 = some (.iaload, 1) := by decide +kernel
theorem o234_1019 : zop 234 1019 = some (.invokevirtual 190, 3) := by decide +kernel
theorem o234_1022 : zop 234 1022 = some (.istore 6, 2) := by decide +kernel
theorem o234_1024 : zop 234 1024 = some (.aload_n 2, 1) := by decide +kernel
theorem o234_1025 : zop 234 1025 = some (.invokevirtual 130, 3) := by decide +kernel
theorem o234_1028 : zop 234 1028 = some (.iload 5, 2) := by decide +kernel
theorem o234_1030 : zop 234 1030 = some (.if_icmp .eq 5, 3) := by decide +kernel
theorem o234_1033 : zop 234 1033 = some (.iconst 0, 1) := by decide +kernel
theorem o234_1034 : zop 234 1034 = some (.ireturn, 1) := by decide +kernel
theorem o234_1035 : zop 234 1035 = some (.iload 5, 2) := by decide +kernel
theorem o234_1037 : zop 234 1037 = some (.ifCond .ne 15, 3) := by decide +kernel
theorem o234_1040 : zop 234 1040 = some (.aload_n 3, 1) := by decide +kernel
theorem o234_1041 : zop 234 1041 = some (.iconst 0, 1) := by decide +kernel
theorem o234_1042 : zop 234 1042 = some (.laload, 1) := by decide +kernel
theorem o234_1043 : zop 234 1043 = some (.iload 6, 2) := by decide +kernel
theorem o234_1045 : zop 234 1045 = some (.i2l, 1) := by decide +kernel
theorem o234_1046 : zop 234 1046 = some (.lcmp, 1) := by decide +kernel
theorem o234_1047 : zop 234 1047 = some (.ifCond .eq 5, 3) := by decide +kernel
theorem o234_1050 : zop 234 1050 = some (.iconst 0, 1) := by decide +kernel
theorem o234_1051 : zop 234 1051 = some (.ireturn, 1) := by decide +kernel
theorem o234_1052 : zop 234 1052 = some (.goto 427, 3) := by decide +kernel
theorem o234_1055 : zop 234 1055 = some (.aload_n 1, 1) := by decide +kernel
theorem o234_1056 : zop 234 1056 = some (.invokevirtual 101, 3) := by decide +kernel
theorem o234_1059 : zop 234 1059 = some (.aload_n 2, 1) := by decide +kernel
theorem o234_1060 : zop 234 1060 = some (.invokevirtual 191, 3) := by decide +kernel
theorem o234_1063 : zop 234 1063 = some (.goto 416, 3) := by decide +kernel
theorem o234_1066 : zop 234 1066 = some (.aload_n 1, 1) := by decide +kernel
theorem o234_1067 : zop 234 1067 = some (.aload_n 0, 1) := by decide +kernel
theorem o234_1068 : zop 234 1068 = some (.iload 4, 2) := by decide +kernel
theorem o234_1070 : zop 234 1070 = some (.iconst 1, 1) := by decide +kernel
theorem o234_1071 : zop 234 1071 = some (.iadd, 1) := by decide +kernel
theorem o234_1072 : zop 234 1072 = some (.iaload, 1) := by decide +kernel
theorem o234_1073 : zop 234 1073 = some (.aload_n 3, 1) := by decide +kernel
theorem o234_1074 : zop 234 1074 = some (.invokestatic 221, 3) := by decide +kernel
theorem o234_1077 : zop 234 1077 = some (.istore 5, 2) := by decide +kernel
theorem o234_1079 : zop 234 1079 = some (.aload_n 2, 1) := by decide +kernel
theorem o234_1080 : zop 234 1080 = some (.aload_n 0, 1) := by decide +kernel
theorem o234_1081 : zop 234 1081 = some (.iload 4, 2) := by decide +kernel
theorem o234_1083 : zop 234 1083 = some (.iconst 1, 1) := by decide +kernel
theorem o234_1084 : zop 234 1084 = some (.iadd, 1) := by decide +kernel
theorem o234_1085 : zop 234 1085 = some (.iaload, 1) := by decide +kernel
theorem o234_1086 : zop 234 1086 = some (.invokevirtual 192, 3) := by decide +kernel
theorem o234_1089 : zop 234 1089 = some (.istore 6, 2) := by decide +kernel
theorem o234_1091 : zop 234 1091 = some (.aload_n 2, 1) := by decide +kernel
theorem o234_1092 : zop 234 1092 = some (.invokevirtual 130, 3) := by decide +kernel
theorem o234_1095 : zop 234 1095 = some (.iload 5, 2) := by decide +kernel
theorem o234_1097 : zop 234 1097 = some (.if_icmp .eq 5, 3) := by decide +kernel
theorem o234_1100 : zop 234 1100 = some (.iconst 0, 1) := by decide +kernel
theorem o234_1101 : zop 234 1101 = some (.ireturn, 1) := by decide +kernel
theorem o234_1102 : zop 234 1102 = some (.iload 5, 2) := by decide +kernel
theorem o234_1104 : zop 234 1104 = some (.ifCond .ne 15, 3) := by decide +kernel
theorem o234_1107 : zop 234 1107 = some (.aload_n 3, 1) := by decide +kernel
theorem o234_1108 : zop 234 1108 = some (.iconst 0, 1) := by decide +kernel
theorem o234_1109 : zop 234 1109 = some (.laload, 1) := by decide +kernel
theorem o234_1110 : zop 234 1110 = some (.iload 6, 2) := by decide +kernel
theorem o234_1112 : zop 234 1112 = some (.i2l, 1) := by decide +kernel
theorem o234_1113 : zop 234 1113 = some (.lcmp, 1) := by decide +kernel
theorem o234_1114 : zop 234 1114 = some (.ifCond .eq 5, 3) := by decide +kernel
theorem o234_1117 : zop 234 1117 = some (.iconst 0, 1) := by decide +kernel
theorem o234_1118 : zop 234 1118 = some (.ireturn, 1) := by decide +kernel
theorem o234_1119 : zop 234 1119 = some (.goto 360, 3) := by decide +kernel
theorem o234_1122 : zop 234 1122 = some (.aload_n 1, 1) := by decide +kernel
theorem o234_1123 : zop 234 1123 = some (.aload_n 0, 1) := by decide +kernel
theorem o234_1124 : zop 234 1124 = some (.iload 4, 2) := by decide +kernel
theorem o234_1126 : zop 234 1126 = some (.iconst 1, 1) := by decide +kernel
theorem o234_1127 : zop 234 1127 = some (.iadd, 1) := by decide +kernel
theorem o234_1128 : zop 234 1128 = some (.iaload, 1) := by decide +kernel
theorem o234_1129 : zop 234 1129 = some (.aload_n 0, 1) := by decide +kernel
theorem o234_1130 : zop 234 1130 = some (.iload 4, 2) := by decide +kernel
theorem o234_1132 : zop 234 1132 = some (.iconst 2, 1) := by decide +kernel
theorem o234_1133 : zop 234 1133 = some (.iadd, 1) := by decide +kernel
theorem o234_1134 : zop 234 1134 = some (.iaload, 1) := by decide +kernel
theorem o234_1135 : zop 234 1135 = some (.aload_n 0, 1) := by decide +kernel
theorem o234_1136 : zop 234 1136 = some (.iload 4, 2) := by decide +kernel
theorem o234_1138 : zop 234 1138 = some (.iconst 3, 1) := by decide +kernel
theorem o234_1139 : zop 234 1139 = some (.iadd, 1) := by decide +kernel
theorem o234_1140 : zop 234 1140 = some (.iaload, 1) := by decide +kernel
theorem o234_1141 : zop 234 1141 = some (.aload_n 3, 1) := by decide +kernel
theorem o234_1142 : zop 234 1142 = some (.invokestatic 222, 3) := by decide +kernel
theorem o234_1145 : zop 234 1145 = some (.istore 5, 2) := by decide +kernel
theorem o234_1147 : zop 234 1147 = some (.aload_n 2, 1) := by decide +kernel
theorem o234_1148 : zop 234 1148 = some (.aload_n 0, 1) := by decide +kernel
theorem o234_1149 : zop 234 1149 = some (.iload 4, 2) := by decide +kernel
theorem o234_1151 : zop 234 1151 = some (.iconst 1, 1) := by decide +kernel
theorem o234_1152 : zop 234 1152 = some (.iadd, 1) := by decide +kernel
theorem o234_1153 : zop 234 1153 = some (.iaload, 1) := by decide +kernel
theorem o234_1154 : zop 234 1154 = some (.aload_n 0, 1) := by decide +kernel
theorem o234_1155 : zop 234 1155 = some (.iload 4, 2) := by decide +kernel
theorem o234_1157 : zop 234 1157 = some (.iconst 2, 1) := by decide +kernel
theorem o234_1158 : zop 234 1158 = some (.iadd, 1) := by decide +kernel
theorem o234_1159 : zop 234 1159 = some (.iaload, 1) := by decide +kernel
theorem o234_1160 : zop 234 1160 = some (.aload_n 0, 1) := by decide +kernel
theorem o234_1161 : zop 234 1161 = some (.iload 4, 2) := by decide +kernel
theorem o234_1163 : zop 234 1163 = some (.iconst 3, 1) := by decide +kernel
theorem o234_1164 : zop 234 1164 = some (.iadd, 1) := by decide +kernel
theorem o234_1165 : zop 234 1165 = some (.iaload, 1) := by decide +kernel
theorem o234_1166 : zop 234 1166 = some (.invokevirtual 200, 3) := by decide +kernel
theorem o234_1169 : zop 234 1169 = some (.istore 6, 2) := by decide +kernel
theorem o234_1171 : zop 234 1171 = some (.aload_n 2, 1) := by decide +kernel
theorem o234_1172 : zop 234 1172 = some (.invokevirtual 130, 3) := by decide +kernel
theorem o234_1175 : zop 234 1175 = some (.iload 5, 2) := by decide +kernel
theorem o234_1177 : zop 234 1177 = some (.if_icmp .eq 5, 3) := by decide +kernel
theorem o234_1180 : zop 234 1180 = some (.iconst 0, 1) := by decide +kernel
theorem o234_1181 : zop 234 1181 = some (.ireturn, 1) := by decide +kernel
theorem o234_1182 : zop 234 1182 = some (.iload 5, 2) := by decide +kernel
theorem o234_1184 : zop 234 1184 = some (.ifCond .ne 15, 3) := by decide +kernel
theorem o234_1187 : zop 234 1187 = some (.aload_n 3, 1) := by decide +kernel
theorem o234_1188 : zop 234 1188 = some (.iconst 0, 1) := by decide +kernel
theorem o234_1189 : zop 234 1189 = some (.laload, 1) := by decide +kernel
theorem o234_1190 : zop 234 1190 = some (.iload 6, 2) := by decide +kernel
theorem o234_1192 : zop 234 1192 = some (.i2l, 1) := by decide +kernel
theorem o234_1193 : zop 234 1193 = some (.lcmp, 1) := by decide +kernel
theorem o234_1194 : zop 234 1194 = some (.ifCond .eq 5, 3) := by decide +kernel
theorem o234_1197 : zop 234 1197 = some (.iconst 0, 1) := by decide +kernel
theorem o234_1198 : zop 234 1198 = some (.ireturn, 1) := by decide +kernel
theorem o234_1199 : zop 234 1199 = some (.goto 280, 3) := by decide +kernel
theorem o234_1202 : zop 234 1202 = some (.aload_n 1, 1) := by decide +kernel
theorem o234_1203 : zop 234 1203 = some (.invokevirtual 102, 3) := by decide +kernel
theorem o234_1206 : zop 234 1206 = some (.aload_n 2, 1) := by decide +kernel
theorem o234_1207 : zop 234 1207 = some (.invokevirtual 201, 3) := by decide +kernel
theorem o234_1210 : zop 234 1210 = some (.if_icmp .eq 269, 3) := by decide +kernel
theorem o234_1213 : zop 234 1213 = some (.iconst 0, 1) := by decide +kernel
theorem o234_1214 : zop 234 1214 = some (.ireturn, 1) := by decide +kernel
theorem o234_1215 : zop 234 1215 = some (.aload_n 1, 1) := by decide +kernel
theorem o234_1216 : zop 234 1216 = some (.aload_n 0, 1) := by decide +kernel
theorem o234_1217 : zop 234 1217 = some (.iload 4, 2) := by decide +kernel
theorem o234_1219 : zop 234 1219 = some (.iconst 1, 1) := by decide +kernel
theorem o234_1220 : zop 234 1220 = some (.iadd, 1) := by decide +kernel
theorem o234_1221 : zop 234 1221 = some (.iaload, 1) := by decide +kernel
theorem o234_1222 : zop 234 1222 = some (.aload_n 3, 1) := by decide +kernel
theorem o234_1223 : zop 234 1223 = some (.invokestatic 223, 3) := by decide +kernel
theorem o234_1226 : zop 234 1226 = some (.istore 5, 2) := by decide +kernel
theorem o234_1228 : zop 234 1228 = some (.aload_n 2, 1) := by decide +kernel
theorem o234_1229 : zop 234 1229 = some (.aload_n 0, 1) := by decide +kernel
theorem o234_1230 : zop 234 1230 = some (.iload 4, 2) := by decide +kernel
theorem o234_1232 : zop 234 1232 = some (.iconst 1, 1) := by decide +kernel
theorem o234_1233 : zop 234 1233 = some (.iadd, 1) := by decide +kernel
theorem o234_1234 : zop 234 1234 = some (.iaload, 1) := by decide +kernel
theorem o234_1235 : zop 234 1235 = some (.invokevirtual 202, 3) := by decide +kernel
theorem o234_1238 : zop 234 1238 = some (.istore 6, 2) := by decide +kernel
theorem o234_1240 : zop 234 1240 = some (.aload_n 2, 1) := by decide +kernel
theorem o234_1241 : zop 234 1241 = some (.invokevirtual 130, 3) := by decide +kernel
theorem o234_1244 : zop 234 1244 = some (.iload 5, 2) := by decide +kernel
theorem o234_1246 : zop 234 1246 = some (.if_icmp .eq 5, 3) := by decide +kernel
theorem o234_1249 : zop 234 1249 = some (.iconst 0, 1) := by decide +kernel
theorem o234_1250 : zop 234 1250 = some (.ireturn, 1) := by decide +kernel
theorem o234_1251 : zop 234 1251 = some (.iload 5, 2) := by decide +kernel
theorem o234_1253 : zop 234 1253 = some (.ifCond .ne 15, 3) := by decide +kernel
theorem o234_1256 : zop 234 1256 = some (.aload_n 3, 1) := by decide +kernel
theorem o234_1257 : zop 234 1257 = some (.iconst 0, 1) := by decide +kernel
theorem o234_1258 : zop 234 1258 = some (.laload, 1) := by decide +kernel
theorem o234_1259 : zop 234 1259 = some (.iload 6, 2) := by decide +kernel
theorem o234_1261 : zop 234 1261 = some (.i2l, 1) := by decide +kernel
theorem o234_1262 : zop 234 1262 = some (.lcmp, 1) := by decide +kernel
theorem o234_1263 : zop 234 1263 = some (.ifCond .eq 5, 3) := by decide +kernel
theorem o234_1266 : zop 234 1266 = some (.iconst 0, 1) := by decide +kernel
theorem o234_1267 : zop 234 1267 = some (.ireturn, 1) := by decide +kernel
theorem o234_1268 : zop 234 1268 = some (.goto 211, 3) := by decide +kernel
theorem o234_1271 : zop 234 1271 = some (.aload_n 1, 1) := by decide +kernel
theorem o234_1272 : zop 234 1272 = some (.aload_n 0, 1) := by decide +kernel
theorem o234_1273 : zop 234 1273 = some (.iload 4, 2) := by decide +kernel
theorem o234_1275 : zop 234 1275 = some (.iconst 1, 1) := by decide +kernel
theorem o234_1276 : zop 234 1276 = some (.iadd, 1) := by decide +kernel
theorem o234_1277 : zop 234 1277 = some (.iaload, 1) := by decide +kernel
theorem o234_1278 : zop 234 1278 = some (.aload_n 0, 1) := by decide +kernel
theorem o234_1279 : zop 234 1279 = some (.iload 4, 2) := by decide +kernel
theorem o234_1281 : zop 234 1281 = some (.iconst 2, 1) := by decide +kernel
theorem o234_1282 : zop 234 1282 = some (.iadd, 1) := by decide +kernel
theorem o234_1283 : zop 234 1283 = some (.iaload, 1) := by decide +kernel
theorem o234_1284 : zop 234 1284 = some (.aload_n 0, 1) := by decide +kernel
theorem o234_1285 : zop 234 1285 = some (.iload 4, 2) := by decide +kernel
theorem o234_1287 : zop 234 1287 = some (.iconst 3, 1) := by decide +kernel
theorem o234_1288 : zop 234 1288 = some (.iadd, 1) := by decide +kernel
theorem o234_1289 : zop 234 1289 = some (.iaload, 1) := by decide +kernel
theorem o234_1290 : zop 234 1290 = some (.aload_n 0, 1) := by decide +kernel
theorem o234_1291 : zop 234 1291 = some (.iload 4, 2) := by decide +kernel
theorem o234_1293 : zop 234 1293 = some (.iconst 4, 1) := by decide +kernel
theorem o234_1294 : zop 234 1294 = some (.iadd, 1) := by decide +kernel
theorem o234_1295 : zop 234 1295 = some (.iaload, 1) := by decide +kernel
theorem o234_1296 : zop 234 1296 = some (.aload_n 0, 1) := by decide +kernel
theorem o234_1297 : zop 234 1297 = some (.iload 4, 2) := by decide +kernel
theorem o234_1299 : zop 234 1299 = some (.iconst 5, 1) := by decide +kernel
theorem o234_1300 : zop 234 1300 = some (.iadd, 1) := by decide +kernel
theorem o234_1301 : zop 234 1301 = some (.iaload, 1) := by decide +kernel
theorem o234_1302 : zop 234 1302 = some (.aload_n 3, 1) := by decide +kernel
theorem o234_1303 : zop 234 1303 = some (.invokestatic 224, 3) := by decide +kernel
theorem o234_1306 : zop 234 1306 = some (.istore 5, 2) := by decide +kernel
theorem o234_1308 : zop 234 1308 = some (.aload_n 2, 1) := by decide +kernel
theorem o234_1309 : zop 234 1309 = some (.aload_n 0, 1) := by decide +kernel
theorem o234_1310 : zop 234 1310 = some (.iload 4, 2) := by decide +kernel
theorem o234_1312 : zop 234 1312 = some (.iconst 1, 1) := by decide +kernel
theorem o234_1313 : zop 234 1313 = some (.iadd, 1) := by decide +kernel
theorem o234_1314 : zop 234 1314 = some (.iaload, 1) := by decide +kernel
theorem o234_1315 : zop 234 1315 = some (.aload_n 0, 1) := by decide +kernel
theorem o234_1316 : zop 234 1316 = some (.iload 4, 2) := by decide +kernel
theorem o234_1318 : zop 234 1318 = some (.iconst 2, 1) := by decide +kernel
theorem o234_1319 : zop 234 1319 = some (.iadd, 1) := by decide +kernel
theorem o234_1320 : zop 234 1320 = some (.iaload, 1) := by decide +kernel
theorem o234_1321 : zop 234 1321 = some (.aload_n 0, 1) := by decide +kernel
theorem o234_1322 : zop 234 1322 = some (.iload 4, 2) := by decide +kernel
theorem o234_1324 : zop 234 1324 = some (.iconst 3, 1) := by decide +kernel
theorem o234_1325 : zop 234 1325 = some (.iadd, 1) := by decide +kernel
theorem o234_1326 : zop 234 1326 = some (.iaload, 1) := by decide +kernel
theorem o234_1327 : zop 234 1327 = some (.aload_n 0, 1) := by decide +kernel
theorem o234_1328 : zop 234 1328 = some (.iload 4, 2) := by decide +kernel
theorem o234_1330 : zop 234 1330 = some (.iconst 4, 1) := by decide +kernel
theorem o234_1331 : zop 234 1331 = some (.iadd, 1) := by decide +kernel
theorem o234_1332 : zop 234 1332 = some (.iaload, 1) := by decide +kernel
theorem o234_1333 : zop 234 1333 = some (.aload_n 0, 1) := by decide +kernel
theorem o234_1334 : zop 234 1334 = some (.iload 4, 2) := by decide +kernel
theorem o234_1336 : zop 234 1336 = some (.iconst 5, 1) := by decide +kernel
theorem o234_1337 : zop 234 1337 = some (.iadd, 1) := by decide +kernel
theorem o234_1338 : zop 234 1338 = some (.iaload, 1) := by decide +kernel
theorem o234_1339 : zop 234 1339 = some (.invokevirtual 203, 3) := by decide +kernel
theorem o234_1342 : zop 234 1342 = some (.istore 6, 2) := by decide +kernel
theorem o234_1344 : zop 234 1344 = some (.aload_n 2, 1) := by decide +kernel
theorem o234_1345 : zop 234 1345 = some (.invokevirtual 130, 3) := by decide +kernel
theorem o234_1348 : zop 234 1348 = some (.iload 5, 2) := by decide +kernel
theorem o234_1350 : zop 234 1350 = some (.if_icmp .eq 5, 3) := by decide +kernel
theorem o234_1353 : zop 234 1353 = some (.iconst 0, 1) := by decide +kernel
theorem o234_1354 : zop 234 1354 = some (.ireturn, 1) := by decide +kernel
theorem o234_1355 : zop 234 1355 = some (.iload 5, 2) := by decide +kernel
theorem o234_1357 : zop 234 1357 = some (.ifCond .ne 15, 3) := by decide +kernel
theorem o234_1360 : zop 234 1360 = some (.aload_n 3, 1) := by decide +kernel
theorem o234_1361 : zop 234 1361 = some (.iconst 0, 1) := by decide +kernel
theorem o234_1362 : zop 234 1362 = some (.laload, 1) := by decide +kernel
theorem o234_1363 : zop 234 1363 = some (.iload 6, 2) := by decide +kernel
theorem o234_1365 : zop 234 1365 = some (.i2l, 1) := by decide +kernel
theorem o234_1366 : zop 234 1366 = some (.lcmp, 1) := by decide +kernel
theorem o234_1367 : zop 234 1367 = some (.ifCond .eq 5, 3) := by decide +kernel
theorem o234_1370 : zop 234 1370 = some (.iconst 0, 1) := by decide +kernel
theorem o234_1371 : zop 234 1371 = some (.ireturn, 1) := by decide +kernel
theorem o234_1372 : zop 234 1372 = some (.goto 107, 3) := by decide +kernel
theorem o234_1375 : zop 234 1375 = some (.aload_n 1, 1) := by decide +kernel
theorem o234_1376 : zop 234 1376 = some (.aload_n 0, 1) := by decide +kernel
theorem o234_1377 : zop 234 1377 = some (.iload 4, 2) := by decide +kernel
theorem o234_1379 : zop 234 1379 = some (.iconst 1, 1) := by decide +kernel
theorem o234_1380 : zop 234 1380 = some (.iadd, 1) := by decide +kernel
theorem o234_1381 : zop 234 1381 = some (.iaload, 1) := by decide +kernel
theorem o234_1382 : zop 234 1382 = some (.aload_n 0, 1) := by decide +kernel
theorem o234_1383 : zop 234 1383 = some (.iload 4, 2) := by decide +kernel
theorem o234_1385 : zop 234 1385 = some (.iconst 2, 1) := by decide +kernel
theorem o234_1386 : zop 234 1386 = some (.iadd, 1) := by decide +kernel
theorem o234_1387 : zop 234 1387 = some (.iaload, 1) := by decide +kernel
theorem o234_1388 : zop 234 1388 = some (.aload_n 0, 1) := by decide +kernel
theorem o234_1389 : zop 234 1389 = some (.iload 4, 2) := by decide +kernel
theorem o234_1391 : zop 234 1391 = some (.iconst 3, 1) := by decide +kernel
theorem o234_1392 : zop 234 1392 = some (.iadd, 1) := by decide +kernel
theorem o234_1393 : zop 234 1393 = some (.iaload, 1) := by decide +kernel
theorem o234_1394 : zop 234 1394 = some (.aload_n 3, 1) := by decide +kernel
theorem o234_1395 : zop 234 1395 = some (.invokestatic 225, 3) := by decide +kernel
theorem o234_1398 : zop 234 1398 = some (.istore 5, 2) := by decide +kernel
theorem o234_1400 : zop 234 1400 = some (.aload_n 2, 1) := by decide +kernel
theorem o234_1401 : zop 234 1401 = some (.aload_n 0, 1) := by decide +kernel
theorem o234_1402 : zop 234 1402 = some (.iload 4, 2) := by decide +kernel
theorem o234_1404 : zop 234 1404 = some (.iconst 1, 1) := by decide +kernel
theorem o234_1405 : zop 234 1405 = some (.iadd, 1) := by decide +kernel
theorem o234_1406 : zop 234 1406 = some (.iaload, 1) := by decide +kernel
theorem o234_1407 : zop 234 1407 = some (.aload_n 0, 1) := by decide +kernel
theorem o234_1408 : zop 234 1408 = some (.iload 4, 2) := by decide +kernel
theorem o234_1410 : zop 234 1410 = some (.iconst 2, 1) := by decide +kernel
theorem o234_1411 : zop 234 1411 = some (.iadd, 1) := by decide +kernel
theorem o234_1412 : zop 234 1412 = some (.iaload, 1) := by decide +kernel
theorem o234_1413 : zop 234 1413 = some (.aload_n 0, 1) := by decide +kernel
theorem o234_1414 : zop 234 1414 = some (.iload 4, 2) := by decide +kernel
theorem o234_1416 : zop 234 1416 = some (.iconst 3, 1) := by decide +kernel
theorem o234_1417 : zop 234 1417 = some (.iadd, 1) := by decide +kernel
theorem o234_1418 : zop 234 1418 = some (.iaload, 1) := by decide +kernel
theorem o234_1419 : zop 234 1419 = some (.invokevirtual 205, 3) := by decide +kernel
theorem o234_1422 : zop 234 1422 = some (.istore 6, 2) := by decide +kernel
theorem o234_1424 : zop 234 1424 = some (.aload_n 2, 1) := by decide +kernel
theorem o234_1425 : zop 234 1425 = some (.invokevirtual 130, 3) := by decide +kernel
theorem o234_1428 : zop 234 1428 = some (.iload 5, 2) := by decide +kernel
theorem o234_1430 : zop 234 1430 = some (.if_icmp .eq 5, 3) := by decide +kernel
theorem o234_1433 : zop 234 1433 = some (.iconst 0, 1) := by decide +kernel
theorem o234_1434 : zop 234 1434 = some (.ireturn, 1) := by decide +kernel
theorem o234_1435 : zop 234 1435 = some (.iload 5, 2) := by decide +kernel
theorem o234_1437 : zop 234 1437 = some (.ifCond .ne 15, 3) := by decide +kernel
theorem o234_1440 : zop 234 1440 = some (.aload_n 3, 1) := by decide +kernel
theorem o234_1441 : zop 234 1441 = some (.iconst 0, 1) := by decide +kernel
theorem o234_1442 : zop 234 1442 = some (.laload, 1) := by decide +kernel
theorem o234_1443 : zop 234 1443 = some (.iload 6, 2) := by decide +kernel
theorem o234_1445 : zop 234 1445 = some (.i2l, 1) := by decide +kernel
theorem o234_1446 : zop 234 1446 = some (.lcmp, 1) := by decide +kernel
theorem o234_1447 : zop 234 1447 = some (.ifCond .eq 5, 3) := by decide +kernel
theorem o234_1450 : zop 234 1450 = some (.iconst 0, 1) := by decide +kernel
theorem o234_1451 : zop 234 1451 = some (.ireturn, 1) := by decide +kernel
theorem o234_1452 : zop 234 1452 = some (.goto 27, 3) := by decide +kernel
theorem o234_1455 : zop 234 1455 = some (.aload_n 1, 1) := by decide +kernel
theorem o234_1456 : zop 234 1456 = some (.invokevirtual 104, 3) := by decide +kernel
theorem o234_1459 : zop 234 1459 = some (.aload_n 2, 1) := by decide +kernel
theorem o234_1460 : zop 234 1460 = some (.invokevirtual 207, 3) := by decide +kernel
theorem o234_1463 : zop 234 1463 = some (.goto 16, 3) := by decide +kernel
theorem o234_1466 : zop 234 1466 = some (.aload_n 1, 1) := by decide +kernel
theorem o234_1467 : zop 234 1467 = some (.invokevirtual 105, 3) := by decide +kernel
theorem o234_1470 : zop 234 1470 = some (.aload_n 2, 1) := by decide +kernel
theorem o234_1471 : zop 234 1471 = some (.invokevirtual 208, 3) := by decide +kernel
theorem o234_1474 : zop 234 1474 = some (.if_icmp .eq 5, 3) := by decide +kernel
theorem o234_1477 : zop 234 1477 = some (.iconst 0, 1) := by decide +kernel
theorem o234_1478 : zop 234 1478 = some (.ireturn, 1) := by decide +kernel
theorem o234_1479 : zop 234 1479 = some (.iinc 4 6, 3) := by decide +kernel
theorem o234_1482 : zop 234 1482 = some (.goto (-1459), 3) := by decide +kernel
theorem o234_1485 : zop 234 1485 = some (.iconst 1, 1) := by decide +kernel
theorem o234_1486 : zop 234 1486 = some (.ireturn, 1) := by decide +kernel
